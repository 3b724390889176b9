theorem hz_dm (n : Nat) (hn : n < 100) : (nI n - 1).toInt = (n : Int) - 1 := pk_sub_toInt (a := n) (b := 1) (by omega) (by decide)
theorem hn_sum_last {f : Nat → Nat} {n : Nat} (h : f n = 0) : hn_sum f (n + 1) = hn_sum f n := by
  show hn_sum f n + f n = _
  rw [h, Nat.add_zero]
theorem hn_sum_head (f : Nat → Nat) (n : Nat) : hn_sum f (n + 1) = f 0 + hn_sum (fun j => f (j + 1)) n := by
  rw [Nat.add_comm n 1, hn_sum_split]
  show 0 + f 0 + hn_sum (fun j => f (1 + j)) n = _
  rw [Nat.zero_add, hn_sum_congr (fun j _ => by rw [Nat.add_comm 1 j])]
def hz_d (a b : Bool) : Nat := hb_n (a ^^ b)
theorem hz_1d (a : Int → Bool) (h0 : a (-1) = false) (h1 : a 12 = false) : hn_sum (fun x => hz_d (a x) (a ((x : Int) - 1))) 13 = hn_sum (fun x => hb_n (a x && !(a ((x : Int) - 1))) + hb_n (a x && !(a ((x : Int) + 1)))) 12 := by
  have e : ∀ p q : Bool, hz_d p q = hb_n (p && !q) + hb_n (q && !p) := by intro p q; cases p <;> cases q <;> rfl
  rw [hn_sum_congr (fun x _ => e (a x) (a ((x : Int) - 1))), hn_sum_add, hn_sum_add]
  congr 1
  · exact hn_sum_last (by show hb_n (a 12 && _) = 0; rw [h1]; rfl)
  · rw [hn_sum_head]
    have z : hb_n (a (((0 : Nat) : Int) - 1) && !(a ((0 : Nat) : Int))) = 0 := by
      show hb_n (a (-1) && _) = 0
      rw [h0]; rfl
    rw [z, Nat.zero_add]
    refine hn_sum_congr (fun j _ => ?_)
    rw [show (((j + 1 : Nat) : Int) - 1) = (j : Int) by omega, show ((j + 1 : Nat) : Int) = (j : Int) + 1 by omega]
def hz_3 (F : Nat → Nat → Nat → Nat) (a b c : Nat) : Nat := hn_sum (fun x => hn_sum (fun y => hn_sum (fun z => F x y z) c) b) a
theorem hz_3_congr {F G : Nat → Nat → Nat → Nat} {a b c : Nat} (h : ∀ x y z, x < a → y < b → z < c → F x y z = G x y z) : hz_3 F a b c = hz_3 G a b c := hn_sum_congr (fun x hx => hn_sum_congr (fun y hy => hn_sum_congr (fun z hz => h x y z hx hy hz)))
theorem hz_3_add (F G : Nat → Nat → Nat → Nat) (a b c : Nat) : hz_3 (fun x y z => F x y z + G x y z) a b c = hz_3 F a b c + hz_3 G a b c := by
  unfold hz_3
  rw [← hn_sum_add]
  refine hn_sum_congr (fun x _ => ?_)
  rw [← hn_sum_add]
  refine hn_sum_congr (fun y _ => ?_)
  exact hn_sum_add _ _ _
theorem hz_3_yz (F : Nat → Nat → Nat → Nat) (a b c : Nat) : hz_3 F a b c = hz_3 (fun x z y => F x y z) a c b := hn_sum_congr (fun x _ => hn_sum_swap _ _ _)
theorem hz_3_xy (F : Nat → Nat → Nat → Nat) (a b c : Nat) : hz_3 F a b c = hz_3 (fun y x z => F x y z) b a c := hn_sum_swap (fun x y => hn_sum (fun z => F x y z) c) a b
theorem hz_3_rot (F : Nat → Nat → Nat → Nat) (a b c : Nat) : hz_3 F a b c = hz_3 (fun y z x => F x y z) b c a := (hz_3_xy F a b c).trans (hz_3_yz _ b a c)
theorem hz_3_trim1 {F : Nat → Nat → Nat → Nat} {a b c : Nat} (h : ∀ y z, F a y z = 0) : hz_3 F (a + 1) b c = hz_3 F a b c := hn_sum_last (hn_sum_zero (fun y _ => hn_sum_zero (fun z _ => h y z)))
theorem hz_3_trim2 {F : Nat → Nat → Nat → Nat} {a b c : Nat} (h : ∀ x z, F x b z = 0) : hz_3 F a (b + 1) c = hz_3 F a b c := hn_sum_congr (fun x _ => hn_sum_last (hn_sum_zero (fun z _ => h x z)))
theorem hz_3_trim3 {F : Nat → Nat → Nat → Nat} {a b c : Nat} (h : ∀ x y, F x y c = 0) : hz_3 F a b (c + 1) = hz_3 F a b c := hn_sum_congr (fun x _ => hn_sum_congr (fun y _ => hn_sum_last (h x y)))
theorem hz_3_prod (F : Nat → Nat → Nat → Nat) : hn_sum (fun k => F (k / 144) (k / 12 % 12) (k % 12)) 1728 = hz_3 F 12 12 12 := by
  have q1 := hn_sum_prod (fun k => F (k / 144) (k / 12 % 12) (k % 12)) 144 12
  refine Eq.trans q1 (hn_sum_congr (fun x hx => ?_))
  have q2 := hn_sum_prod (fun j => F ((x * 144 + j) / 144) ((x * 144 + j) / 12 % 12) ((x * 144 + j) % 12)) 12 12
  refine Eq.trans q2 (hn_sum_congr (fun y hy => hn_sum_congr (fun z hz => ?_)))
  rw [show (x * 144 + (y * 12 + z)) / 144 = x by omega, show (x * 144 + (y * 12 + z)) / 12 % 12 = y by omega, show (x * 144 + (y * 12 + z)) % 12 = z by omega]
def hz_sd (f : Nat → Int32) (x y z : Nat) : Nat := (hb_n (hz_c f x y z && !(hz_c f ((x : Int) - 1) y z)) + hb_n (hz_c f x y z && !(hz_c f ((x : Int) + 1) y z))) + (hb_n (hz_c f x y z && !(hz_c f x ((y : Int) - 1) z)) + hb_n (hz_c f x y z && !(hz_c f x ((y : Int) + 1) z))) + (hb_n (hz_c f x y z && !(hz_c f x y ((z : Int) - 1))) + hb_n (hz_c f x y z && !(hz_c f x y ((z : Int) + 1))))
theorem hz_pcx {x y : Int32} (hx : hb_lo 13 x) (hy : hb_lo 13 y) : hj_bc (x ^^^ y) = nI (hn_sum (fun z => hz_d (bt x z) (bt y z)) 13) := by
  rw [hj_bc13 (hb_lo_xor hx hy)]
  unfold hb_pc
  rw [hn_sum_congr (fun z _ => by rw [b_xor])]
  rfl
theorem hq_sd1 {f bi : Nat → Int32} {s : Nat} (h : hs_R f bi s) (hs : s < 6) : ∀ x y n, x < 13 → y < 13 → hx_side1 f (nI x) (nI y) n = n + nI (hn_sum (fun z => hz_d (hz_c f x y z) (hz_c f ((x : Int) - 1) y z) + hz_d (hz_c f x y z) (hz_c f x ((y : Int) - 1) z) + hz_d (hz_c f x y z) (hz_c f x y ((z : Int) - 1))) 13) := by
  have L : ∀ x y, hb_lo 13 (hx_col f x y) := fun x y => hb_lo_mono (by decide) (hz_col_lo h x y)
  intro x y n hx hy
  unfold hx_side1
  rw [hz_pcx (L _ _) (L _ _), hz_pcx (L _ _) (L _ _), hz_pcx (L _ _) (hb_lo_shl1 (hz_col_lo h _ _)), Int32.add_assoc, Int32.add_assoc, nI_add, nI_add, ← hn_sum_add, ← hn_sum_add]
  refine congrArg (fun q => n + nI q) (hn_sum_congr (fun z hz => ?_))
  rw [hz_col h _ _ (by omega), hz_col h _ _ (by omega), hz_col h _ _ (by omega), hz_dm x (by omega), hz_dm y (by omega), nI_toInt (by omega), nI_toInt (by omega), b_shl1 _ (by omega), hz_col h _ _ (by omega), nI_toInt (by omega), nI_toInt (by omega)]
  rw [Nat.add_assoc]
  congr 2
  by_cases h0 : z = 0
  · subst h0
    rw [hz_c_out (z := ((0 : Nat) : Int) - 1) (by omega)]
    simp
  · rw [decide_eq_true (by omega), Bool.true_and, show ((z - 1 : Nat) : Int) = (z : Int) - 1 by omega]
theorem hq_sd2 {f bi : Nat → Int32} {s : Nat} (h : hs_R f bi s) (hs : s < 6) : hx_sides f = nI (hz_3 (fun x y z => hz_d (hz_c f x y z) (hz_c f ((x : Int) - 1) y z) + hz_d (hz_c f x y z) (hz_c f x ((y : Int) - 1) z) + hz_d (hz_c f x y z) (hz_c f x y ((z : Int) - 1))) 13 13 13) := by
  unfold hx_sides
  exact hm_it_sum0 (fun x n hx => hm_it_add (fun y n hy => hq_sd1 h hs x y n hx hy) n)
theorem hq_sd3 {f bi : Nat → Int32} {s : Nat} (h : hs_R f bi s) (hs : s < 6) : hy_sd bi s = nI (hz_3 (hz_sd f) 12 12 12) := by
  unfold hy_sd
  rw [← hz_3_prod]
  refine hm_it_sum0 (fun k n hk => ?_)
  unfold hy_sd1
  simp only [hz_has h hs]
  rw [hz_dm _ (by omega), hz_dm _ (by omega), hz_dm _ (by omega), nI_toInt (by omega), nI_toInt (by omega), nI_toInt (by omega), nI_toInt (by omega), nI_toInt (by omega), nI_toInt (by omega)]
  unfold hz_sd
  rw [show ((k / 144 + 1 : Nat) : Int) = ((k / 144 : Nat) : Int) + 1 from rfl, show ((k / 12 % 12 + 1 : Nat) : Int) = ((k / 12 % 12 : Nat) : Int) + 1 from rfl, show ((k % 12 + 1 : Nat) : Int) = ((k % 12 : Nat) : Int) + 1 from rfl]
  cases hc : hz_c f ((k / 144 : Nat) : Int) ((k / 12 % 12 : Nat) : Int) ((k % 12 : Nat) : Int) with
  | false =>
    rw [if_neg (by decide)]
    simp only [Bool.false_and]
    show n = n + nI 0
    rw [nI_0, Int32.add_zero]
  | true =>
    rw [if_pos rfl]
    simp only [Bool.true_and, hx_s_m, nI_add]
    rw [Int32.add_assoc, nI_add]
    congr 2
    omega
theorem hz_dir0 (f : Nat → Int32) : hz_3 (fun x y z => hz_d (hz_c f x y z) (hz_c f ((x : Int) - 1) y z)) 13 13 13 = hz_3 (fun x y z => hb_n (hz_c f x y z && !(hz_c f ((x : Int) - 1) y z)) + hb_n (hz_c f x y z && !(hz_c f ((x : Int) + 1) y z))) 12 12 12 := by
  have t1 : hz_3 (fun x y z => hz_d (hz_c f x y z) (hz_c f ((x : Int) - 1) y z)) 13 13 13 = hz_3 (fun x y z => hz_d (hz_c f x y z) (hz_c f ((x : Int) - 1) y z)) 13 12 12 := by
    rw [hz_3_trim2 (fun x z => by rw [hz_c_out (by omega), hz_c_out (by omega)]; rfl), hz_3_trim3 (fun x y => by rw [hz_c_out (by omega), hz_c_out (by omega)]; rfl)]
  refine t1.trans ((hz_3_rot _ 13 12 12).trans (Eq.trans ?_ (hz_3_rot _ 12 12 12).symm))
  exact hn_sum_congr (fun y _ => hn_sum_congr (fun z _ => hz_1d (fun x => hz_c f x y z) (hz_c_out (by omega)) (hz_c_out (by omega))))
theorem hz_dir1 (f : Nat → Int32) : hz_3 (fun x y z => hz_d (hz_c f x y z) (hz_c f x ((y : Int) - 1) z)) 13 13 13 = hz_3 (fun x y z => hb_n (hz_c f x y z && !(hz_c f x ((y : Int) - 1) z)) + hb_n (hz_c f x y z && !(hz_c f x ((y : Int) + 1) z))) 12 12 12 := by
  have t1 : hz_3 (fun x y z => hz_d (hz_c f x y z) (hz_c f x ((y : Int) - 1) z)) 13 13 13 = hz_3 (fun x y z => hz_d (hz_c f x y z) (hz_c f x ((y : Int) - 1) z)) 12 13 12 := by
    rw [hz_3_trim1 (fun x z => by rw [hz_c_out (by omega), hz_c_out (by omega)]; rfl), hz_3_trim3 (fun x y => by rw [hz_c_out (by omega), hz_c_out (by omega)]; rfl)]
  refine t1.trans ((hz_3_yz _ 12 13 12).trans (Eq.trans ?_ (hz_3_yz _ 12 12 12).symm))
  exact hn_sum_congr (fun x _ => hn_sum_congr (fun z _ => hz_1d (fun y => hz_c f x y z) (hz_c_out (by omega)) (hz_c_out (by omega))))
theorem hz_dir2 (f : Nat → Int32) : hz_3 (fun x y z => hz_d (hz_c f x y z) (hz_c f x y ((z : Int) - 1))) 13 13 13 = hz_3 (fun x y z => hb_n (hz_c f x y z && !(hz_c f x y ((z : Int) - 1))) + hb_n (hz_c f x y z && !(hz_c f x y ((z : Int) + 1)))) 12 12 12 := by
  have t1 : hz_3 (fun x y z => hz_d (hz_c f x y z) (hz_c f x y ((z : Int) - 1))) 13 13 13 = hz_3 (fun x y z => hz_d (hz_c f x y z) (hz_c f x y ((z : Int) - 1))) 12 12 13 := by
    rw [hz_3_trim1 (fun x z => by rw [hz_c_out (by omega), hz_c_out (by omega)]; rfl), hz_3_trim2 (fun x y => by rw [hz_c_out (by omega), hz_c_out (by omega)]; rfl)]
  rw [t1]
  exact hn_sum_congr (fun x _ => hn_sum_congr (fun y _ => hz_1d (fun z => hz_c f x y z) (hz_c_out (by omega)) (hz_c_out (by omega))))
theorem hq_sides {f bi : Nat → Int32} {s : Nat} (h : hs_R f bi s) (hs : s < 6) : hx_sides f = hy_sd bi s := by
  rw [hq_sd2 h hs, hq_sd3 h hs]
  refine congrArg nI ?_
  show _ = hz_3 (fun x y z => (hb_n (hz_c f x y z && !(hz_c f ((x : Int) - 1) y z)) + hb_n (hz_c f x y z && !(hz_c f ((x : Int) + 1) y z))) + (hb_n (hz_c f x y z && !(hz_c f x ((y : Int) - 1) z)) + hb_n (hz_c f x y z && !(hz_c f x ((y : Int) + 1) z))) + (hb_n (hz_c f x y z && !(hz_c f x y ((z : Int) - 1))) + hb_n (hz_c f x y z && !(hz_c f x y ((z : Int) + 1))))) 12 12 12
  rw [hz_3_add, hz_3_add, hz_dir0, hz_dir1, hz_dir2, ← hz_3_add, ← hz_3_add]
