def hz_q (a b c d : Bool) : Bool := ((a ^^ b) || (c ^^ d)) && ((a ^^ c) || (b ^^ d))
theorem hz_q_t (a b c d : Bool) : hz_q a b c d = hz_q a c b d := by cases a <;> cases b <;> cases c <;> cases d <;> rfl
theorem hz_q_h (a b c d : Bool) : hz_q a b c d = hz_q b a d c := by cases a <;> cases b <;> cases c <;> cases d <;> rfl
theorem hz_q_v (a b c d : Bool) : hz_q a b c d = hz_q c d a b := by cases a <;> cases b <;> cases c <;> cases d <;> rfl
theorem hz_q_ed : ∀ p q r t : Bool, (decide (hx_s p 1 0 + hx_s q 1 0 + hx_s r 1 0 + hx_s t 1 0 = 1) || (decide (hx_s p 1 0 + hx_s q 1 0 + hx_s r 1 0 + hx_s t 1 0 = 3) || (decide (hx_s p 1 0 + hx_s q 1 0 + hx_s r 1 0 + hx_s t 1 0 = 2) && decide (hx_b p = hx_b t)))) = hz_q p q r t := by decide +kernel
theorem hz_ed {f bi : Nat → Int32} {s : Nat} (h : hs_R f bi s) (hs : s < 6) (ax o u v : Int32) : hy_ed bi s ax o u v = hz_q (hz_h f ax o.toInt (u - 1).toInt (v - 1).toInt) (hz_h f ax o.toInt u.toInt (v - 1).toInt) (hz_h f ax o.toInt (u - 1).toInt v.toInt) (hz_h f ax o.toInt u.toInt v.toInt) := by
  unfold hy_ed
  rw [hz_q_ed, hz_hb h hs, hz_hb h hs, hz_hb h hs, hz_hb h hs]
theorem hz_ea (a b c d : Int32) (i : Nat) : bt (hx_ea a b c d) i = hz_q (bt a i) (bt b i) (bt c i) (bt d i) := by
  unfold hx_ea
  rw [b_and, b_or, b_or, b_xor, b_xor, b_xor, b_xor]
  rfl
theorem hz_ea_lo {k : Nat} {a b c d : Int32} (ha : hb_lo k a) (hb : hb_lo k b) (hc : hb_lo k c) (hd : hb_lo k d) : hb_lo k (hx_ea a b c d) := hb_lo_and (hb_lo_or (hb_lo_xor ha hb) (hb_lo_xor hc hd))
theorem hz_bm {f bi : Nat → Int32} {s : Nat} (h : hs_R f bi s) {x y : Int32} {z : Nat} (hz : z < 32) : bt (hx_col f x y <<< ((1 : Int32) &&& 31)) z = hz_c f x.toInt y.toInt ((z : Int) - 1) := by
  rw [b_shl1 _ hz]
  by_cases h0 : z = 0
  · subst h0
    rw [hz_c_out (z := ((0 : Nat) : Int) - 1) (by omega)]
    simp
  · rw [decide_eq_true (by omega), Bool.true_and, hz_col h _ _ (by omega), show ((z - 1 : Nat) : Int) = (z : Int) - 1 by omega]
def hz_e0 (f : Nat → Int32) (x y z : Nat) : Nat := hb_n (hz_q (hz_c f x ((y : Int) - 1) ((z : Int) - 1)) (hz_c f x y ((z : Int) - 1)) (hz_c f x ((y : Int) - 1) z) (hz_c f x y z))
def hz_e1 (f : Nat → Int32) (x y z : Nat) : Nat := hb_n (hz_q (hz_c f ((x : Int) - 1) y ((z : Int) - 1)) (hz_c f x y ((z : Int) - 1)) (hz_c f ((x : Int) - 1) y z) (hz_c f x y z))
def hz_e2 (f : Nat → Int32) (x y z : Nat) : Nat := hb_n (hz_q (hz_c f ((x : Int) - 1) ((y : Int) - 1) z) (hz_c f x ((y : Int) - 1) z) (hz_c f ((x : Int) - 1) y z) (hz_c f x y z))
theorem hq_ed1 {f bi : Nat → Int32} {s : Nat} (h : hs_R f bi s) {x y : Nat} {n : Int32} (hx : x < 13) (hy : y < 13) : hx_edge1 f (nI x) (nI y) n = n + nI (hn_sum (fun z => hz_e1 f x y z + hz_e0 f x y z + hz_e2 f x y z) 13) := by
  have L : ∀ x y, hb_lo 13 (hx_col f x y) := fun x y => hb_lo_mono (by decide) (hz_col_lo h x y)
  have M : ∀ x y, hb_lo 13 (hx_col f x y <<< ((1 : Int32) &&& 31)) := fun x y => hb_lo_shl1 (hz_col_lo h x y)
  unfold hx_edge1 hx_eb
  rw [hj_bc13 (hz_ea_lo (L _ _) (M _ _) (L _ _) (M _ _)), hj_bc13 (hz_ea_lo (L _ _) (M _ _) (L _ _) (M _ _)), hj_bc13 (hz_ea_lo (L _ _) (L _ _) (L _ _) (L _ _)), Int32.add_assoc, Int32.add_assoc, nI_add, nI_add]
  unfold hb_pc
  rw [← Nat.add_assoc, ← hn_sum_add, ← hn_sum_add]
  refine congrArg (fun q => n + nI q) (hn_sum_congr (fun z hz => ?_))
  unfold hz_e0 hz_e1 hz_e2
  simp only [hz_ea, hz_bm h (show z < 32 by omega), hz_col h _ _ (show z < 32 by omega), hz_dm x (by omega), hz_dm y (by omega), nI_toInt (show x < 2 ^ 31 by omega), nI_toInt (show y < 2 ^ 31 by omega)]
  rw [hz_q_t, hz_q_v, hz_q_t, hz_q_t (hz_c f (↑x) (↑y - 1) ↑z), hz_q_v _ (hz_c f (↑x) (↑y) ↑z)]
theorem hq_ed2 {f bi : Nat → Int32} {s : Nat} (h : hs_R f bi s) : hx_edges f = nI (hz_3 (hz_e1 f) 13 13 13 + hz_3 (hz_e0 f) 13 13 13 + hz_3 (hz_e2 f) 13 13 13) := by
  rw [← hz_3_add, ← hz_3_add]
  unfold hx_edges
  exact hm_it_sum0 (g := fun x => hn_sum (fun y => hn_sum (fun z => hz_e1 f x y z + hz_e0 f x y z + hz_e2 f x y z) 13) 13) (fun x n hx => hm_it_add (g := fun y => hn_sum (fun z => hz_e1 f x y z + hz_e0 f x y z + hz_e2 f x y z) 13) (fun y n hy => hq_ed1 h hx hy) n)
theorem hz_h0 (f : Nat → Int32) (o u v : Int) : hz_h f (nI 0) o u v = hz_c f o u v := if_pos (by decide)
theorem hz_h1 (f : Nat → Int32) (o u v : Int) : hz_h f (nI 1) o u v = hz_c f u o v := (if_neg (by decide)).trans (if_pos (by decide))
theorem hz_h2 (f : Nat → Int32) (o u v : Int) : hz_h f (nI 2) o u v = hz_c f u v o := (if_neg (by decide)).trans (if_neg (by decide))
def hz_ef (f : Nat → Int32) (ax o u v : Nat) : Nat := hb_n (hz_q (hz_h f (nI ax) o ((u : Int) - 1) ((v : Int) - 1)) (hz_h f (nI ax) o u ((v : Int) - 1)) (hz_h f (nI ax) o ((u : Int) - 1) v) (hz_h f (nI ax) o u v))
theorem hx_it3 (F : Nat → Int32 → Int32) (a : Int32) : hx_it F 3 a = F 2 (F 1 (F 0 a)) := rfl
theorem hq_ed3 {f bi : Nat → Int32} {s : Nat} (h : hs_R f bi s) (hs : s < 6) : hy_egs bi s = nI (hz_3 (hz_e0 f) 12 13 13 + hz_3 (fun y x z => hz_e1 f x y z) 12 13 13 + hz_3 (fun z x y => hz_e2 f x y z) 12 13 13) := by
  have e : ∀ (ax o u v : Nat), o < 12 → u < 13 → v < 13 → hx_s (hy_ed bi s (nI ax) (nI o) (nI u) (nI v)) 1 0 = nI (hz_ef f ax o u v) := by
    intro ax o u v ho hu hv
    unfold hz_ef
    rw [hx_s_n, hz_ed h hs, hz_dm u (by omega), hz_dm v (by omega), nI_toInt (by omega), nI_toInt (by omega), nI_toInt (by omega)]
  have e2 : ∀ (ax : Nat) (n : Int32), hy_eo bi s ax n = n + nI (hn_sum (fun o => hn_sum (fun u => hn_sum (fun v => hz_ef f ax o u v) 13) 13) 12) := by
    intro ax n
    unfold hy_eo
    refine hm_it_add (g := fun o => hn_sum (fun u => hn_sum (fun v => hz_ef f ax o u v) 13) 13) (fun o n ho => ?_) n
    unfold hy_eu
    refine hm_it_add (g := fun u => hn_sum (fun v => hz_ef f ax o u v) 13) (fun u n hu => ?_) n
    unfold hy_ev
    exact hm_it_add (g := fun v => hz_ef f ax o u v) (fun v n hv => by rw [e ax o u v ho hu hv]) n
  have q0 : (fun o u v => hz_ef f 0 o u v) = hz_e0 f := by funext o u v; unfold hz_ef hz_e0; simp only [hz_h0]
  have q1 : (fun o u v => hz_ef f 1 o u v) = fun y x z => hz_e1 f x y z := by funext o u v; unfold hz_ef hz_e1; simp only [hz_h1]
  have q2 : (fun o u v => hz_ef f 2 o u v) = fun z x y => hz_e2 f x y z := by funext o u v; unfold hz_ef hz_e2; simp only [hz_h2]
  rw [← q0, ← q1, ← q2]
  unfold hy_egs
  rw [hx_it3, e2, e2, e2, Int32.zero_add, nI_add, nI_add]
  unfold hz_3
  with_reducible rfl
theorem hq_edges {f bi : Nat → Int32} {s : Nat} (h : hs_R f bi s) (hs : s < 6) : hx_edges f = hy_egs bi s := by
  rw [hq_ed2 h, hq_ed3 h hs]
  refine congrArg nI ?_
  have q : hz_q false false false false = false := rfl
  have a0 : hz_3 (hz_e0 f) 13 13 13 = hz_3 (hz_e0 f) 12 13 13 := hz_3_trim1 (fun y z => by unfold hz_e0; rw [hz_c_out (by omega), hz_c_out (by omega), hz_c_out (by omega), hz_c_out (by omega)]; rfl)
  have a1 : hz_3 (hz_e1 f) 13 13 13 = hz_3 (fun y x z => hz_e1 f x y z) 12 13 13 := (hz_3_trim2 (fun x z => by unfold hz_e1; rw [hz_c_out (by omega), hz_c_out (by omega), hz_c_out (by omega), hz_c_out (by omega)]; rfl)).trans (hz_3_xy _ 13 12 13)
  have a2 : hz_3 (hz_e2 f) 13 13 13 = hz_3 (fun z x y => hz_e2 f x y z) 12 13 13 := (hz_3_trim3 (fun x y => by unfold hz_e2; rw [hz_c_out (by omega), hz_c_out (by omega), hz_c_out (by omega), hz_c_out (by omega)]; rfl)).trans (hz_3_rot (fun z x y => hz_e2 f x y z) 12 13 13).symm
  rw [a0, a1, a2]
  omega
