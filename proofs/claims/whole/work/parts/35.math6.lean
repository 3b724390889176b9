theorem hz_q_r (a b c d : Bool) : hz_q a b c d = hz_q b d a c := by cases a <;> cases b <;> cases c <;> cases d <;> rfl
theorem hx_dep_all0 : ∀ a, a < 64 → ∀ b, b < 64 → hx_dep (nI (a * 64 + b)) 0 = nI (hx_fst (fun i => (a * 64 + b).testBit i) 12 0) ∧ hx_dep (nI (a * 64 + b)) 1 = nI (hx_fst (fun i => (a * 64 + b).testBit (11 - i)) 12 0) := by decide +kernel
theorem hx_dep_al {x : Int32} (h : hb_lo 12 x) : hx_dep x 0 = nI (hx_fst (fun i => bt x i) 12 0) ∧ hx_dep x 1 = nI (hx_fst (fun i => bt x (11 - i)) 12 0) := by
  obtain ⟨n, hn, rfl⟩ := hb_of 12 (by decide) h
  have q := hx_dep_all0 (n / 64) (by omega) (n % 64) (by omega)
  rw [show n / 64 * 64 + n % 64 = n by omega] at q
  rw [q.1, q.2]
  exact ⟨congrArg nI (hx_fst_congr (fun i hi => (hb_nI (by omega)).symm)), congrArg nI (hx_fst_congr (fun i hi => (hb_nI (by omega)).symm))⟩
theorem hx_dep_ne {c b : Int32} (hb : ¬ b = 0) : hx_dep c b = hx_dep c 1 := by
  unfold hx_dep
  rw [if_neg hb, if_neg (show ¬ (1 : Int32) = 0 by decide)]
theorem hq_dep {f bi : Nat → Int32} {s : Nat} (h : hs_R f bi s) (hs : s < 6) {ax : Int32} (hax : ax = 0 ∨ ax = 1 ∨ ax = 2) (b u v : Int32) : hx_dep (hx_al f ax u v) b = hy_dep bi s ax b u v := by
  obtain ⟨q0, q1⟩ := hx_dep_al (hz_al_lo h hax u v)
  unfold hy_dep
  by_cases hb : b = 0
  · subst hb
    rw [q0]
    refine congrArg nI (hx_fst_congr (fun i hi => ?_))
    rw [if_pos rfl, hz_hb h hs, hz_al h hax u v (by omega), nI_toInt (by omega)]
  · rw [hx_dep_ne hb, q1]
    refine congrArg nI (hx_fst_congr (fun i hi => ?_))
    rw [if_neg hb, hz_hb h hs, hz_al h hax u v (by omega), show (11 : Int32) - nI i = nI (11 - i) from pk_sub (a := 11) (by omega), nI_toInt (by omega)]
theorem hx_any0 {P : Nat → Bool} {n : Nat} (h : ∀ k, k < n → P k = false) : hx_it (fun k (m : Int32) => if P k = true then 1 else m) n 0 = 0 := by
  induction n with
  | zero => rfl
  | succ n ih =>
    show (if P n = true then 1 else hx_it (fun k (m : Int32) => if P k = true then 1 else m) n 0) = 0
    rw [h n (by omega), if_neg (by decide)]
    exact ih (fun k hk => h k (by omega))
theorem hx_any1 {P : Nat → Bool} {n j : Nat} (hj : j < n) (h : P j = true) : hx_it (fun k (m : Int32) => if P k = true then 1 else m) n 0 = 1 := by
  induction n with
  | zero => omega
  | succ n ih =>
    show (if P n = true then 1 else hx_it (fun k (m : Int32) => if P k = true then 1 else m) n 0) = 1
    by_cases hn : P n = true
    · rw [if_pos hn]
    · rw [if_neg hn]
      have : j ≠ n := fun q => hn (q ▸ h)
      exact ih (by omega)
theorem hx_any {P : Nat → Bool} {x : Int32} (hx : hb_lo 13 x) (h : ∀ k, k < 13 → bt x k = P k) : hx_it (fun k (m : Int32) => if P k = true then 1 else m) 13 0 = if x = 0 then 0 else 1 := by
  by_cases hx0 : x = 0
  · rw [if_pos hx0]
    exact hx_any0 (fun k hk => by rw [← h k hk, hx0, b_0])
  · rw [if_neg hx0]
    have : ∃ k, k < 13 ∧ bt x k = true := by
      apply Classical.byContradiction
      intro q
      apply hx0
      apply b_ext
      intro i hi
      rw [b_0]
      by_cases h13 : i < 13
      · cases hb : bt x i with
        | false => rfl
        | true => exact absurd ⟨i, h13, hb⟩ q
      · exact hx i (by omega) hi
    obtain ⟨k, hk, hb⟩ := this
    exact hx_any1 hk (by rw [← h k hk]; exact hb)
theorem hz_abm {f bi : Nat → Int32} {s : Nat} (h : hs_R f bi s) {ax : Int32} (hax : ax = 0 ∨ ax = 1 ∨ ax = 2) {x y : Int32} {z : Nat} (hz : z < 32) : bt (hx_al f ax x y <<< ((1 : Int32) &&& 31)) z = hz_h f ax ((z : Int) - 1) x.toInt y.toInt := by
  rw [b_shl1 _ hz]
  by_cases h0 : z = 0
  · subst h0
    rw [hz_h_out (o := ((0 : Nat) : Int) - 1) (by omega)]
    simp
  · rw [decide_eq_true (by omega), Bool.true_and, hz_al h hax _ _ (by omega), show ((z - 1 : Nat) : Int) = (z : Int) - 1 by omega]
theorem hz_h0' (f : Nat → Int32) (o u v : Int) : hz_h f 0 o u v = hz_c f o u v := hz_h0 f o u v
theorem hz_h1' (f : Nat → Int32) (o u v : Int) : hz_h f 1 o u v = hz_c f u o v := hz_h1 f o u v
theorem hz_h2' (f : Nat → Int32) (o u v : Int) : hz_h f 2 o u v = hz_c f u v o := hz_h2 f o u v
theorem hz_ebit {f bi : Nat → Int32} {s : Nat} (h : hs_R f bi s) (hs : s < 6) {ax : Int32} (hax : ax = 0 ∨ ax = 1 ∨ ax = 2) (u v : Int32) {k : Nat} (hk : k < 13) : bt (hx_eb (hx_al f ax (u - 1) v) (hx_al f ax u v)) k = hy_ea bi s ax u v 0 (nI k) ∧ bt (hx_eb (hx_al f ax u (v - 1)) (hx_al f ax u v)) k = hy_ea bi s ax u v 1 (nI k) := by
  unfold hx_eb hy_ea
  rw [hz_ea, hz_ea, hz_al h hax _ _ (by omega), hz_al h hax _ _ (by omega), hz_al h hax _ _ (by omega), hz_abm h hax (by omega), hz_abm h hax (by omega), hz_abm h hax (by omega)]
  simp only [hz_ed h hs, nI_toInt (show k < 2 ^ 31 by omega), hz_dm k (by omega), if_pos, if_neg (show ¬ (1 : Int32) = 0 by decide)]
  rcases hax with rfl | rfl | rfl
  · simp only [if_pos, hz_h0', hz_h1', hz_h2']
    exact ⟨hz_q_h _ _ _ _, hz_q_h _ _ _ _⟩
  · simp only [if_pos, if_neg (show ¬ (1 : Int32) = 0 by decide), hz_h0', hz_h1', hz_h2']
    exact ⟨hz_q_r _ _ _ _, hz_q_h _ _ _ _⟩
  · simp only [if_neg (show ¬ (2 : Int32) = 0 by decide), if_neg (show ¬ (2 : Int32) = 1 by decide), hz_h0', hz_h1', hz_h2']
    exact ⟨hz_q_r _ _ _ _, hz_q_r _ _ _ _⟩
theorem hz_eb_lo {a c : Int32} (ha : hb_lo 12 a) (hc : hb_lo 12 c) : hb_lo 13 (hx_eb a c) := hz_ea_lo (hb_lo_mono (by decide) ha) (hb_lo_shl1 ha) (hb_lo_mono (by decide) hc) (hb_lo_shl1 hc)
theorem hq_st {f bi : Nat → Int32} {s : Nat} (h : hs_R f bi s) (hs : s < 6) {ax : Int32} (hax : ax = 0 ∨ ax = 1 ∨ ax = 2) (b u v : Int32) : hx_sb (hx_al f ax (u - 1) v) (hx_al f ax u v) b = hy_st bi s ax b u v 0 ∧ hx_sb (hx_al f ax u (v - 1)) (hx_al f ax u v) b = hy_st bi s ax b u v 1 := by
  unfold hx_sb hy_st
  rw [hq_dep h hs hax, hq_dep h hs hax, hq_dep h hs hax, if_pos (show (0 : Int32) = 0 from rfl), if_neg (show ¬ (1 : Int32) = 0 by decide)]
  rw [hx_any (hz_eb_lo (hz_al_lo h hax (u - 1) v) (hz_al_lo h hax u v)) (fun k hk => (hz_ebit h hs hax u v hk).1), hx_any (hz_eb_lo (hz_al_lo h hax u (v - 1)) (hz_al_lo h hax u v)) (fun k hk => (hz_ebit h hs hax u v hk).2)]
  exact ⟨rfl, rfl⟩
theorem hx_fill_in (g : Nat → Int32) (x m : Nat) (F : Nat → Int32) (j : Nat) : hx_it (fun y F => upd F (x * 12 + y) (g y)) m F j = if x * 12 ≤ j ∧ j < x * 12 + m then g (j - x * 12) else F j := by
  induction m with
  | zero => rw [if_neg (by omega)]; rfl
  | succ m ih =>
    show upd (hx_it (fun y F => upd F (x * 12 + y) (g y)) m F) (x * 12 + m) (g m) j = _
    by_cases hj : j = x * 12 + m
    · subst hj
      rw [pk_us, if_pos (by omega), Nat.add_sub_cancel_left]
    · rw [pk_un hj, ih]
      by_cases h1 : x * 12 ≤ j ∧ j < x * 12 + m
      · rw [if_pos h1, if_pos (by omega)]
      · rw [if_neg h1, if_neg (by omega)]
theorem hx_fill_at (g : Nat → Nat → Int32) (F : Nat → Int32) {i : Nat} (hi : i < 144) : hx_fill g F i = g (i / 12) (i % 12) := by
  have key : ∀ n j, hx_it (fun x F => hx_it (fun y F => upd F (x * 12 + y) (g x y)) 12 F) n F j = if j < n * 12 then g (j / 12) (j % 12) else F j := by
    intro n
    induction n with
    | zero => intro j; rw [if_neg (by omega)]; rfl
    | succ n ih =>
      intro j
      show hx_it (fun y F => upd F (n * 12 + y) (g n y)) 12 (hx_it (fun x F => hx_it (fun y F => upd F (x * 12 + y) (g x y)) 12 F) n F) j = _
      rw [hx_fill_in (g n) n 12 _ j, ih]
      by_cases h1 : n * 12 ≤ j ∧ j < n * 12 + 12
      · rw [if_pos h1, if_pos (by omega), show j / 12 = n by omega, show j % 12 = j - n * 12 by omega]
      · rw [if_neg h1]
        by_cases h2 : j < n * 12
        · rw [if_pos h2, if_pos (by omega)]
        · rw [if_neg h2, if_neg (by omega)]
  unfold hx_fill
  rw [key 12 i, if_pos (by omega)]
theorem hx_al_out {f bi : Nat → Int32} {s : Nat} (h : hs_R f bi s) {ax : Int32} (hax : ax = 0 ∨ ax = 1 ∨ ax = 2) {u v : Int32} (ho : ¬ (hx_in u 12 = true ∧ hx_in v 12 = true)) : hx_al f ax u v = 0 := by
  apply b_ext
  intro i hi
  rw [hz_al h hax _ _ hi, b_0]
  refine hz_h_out (fun q => ho ⟨(hx_in12 u).mpr ⟨q.2.2.1, q.2.2.2.1⟩, (hx_in12 v).mpr ⟨q.2.2.2.2.1, q.2.2.2.2.2⟩⟩)
theorem hz_vw {f bi : Nat → Int32} {s : Nat} (h : hs_R f bi s) {ax : Int32} (hax : ax = 0 ∨ ax = 1 ∨ ax = 2) (F : Nat → Int32) (u v : Int32) : hx_col (hx_fill (hx_vw f ax) F) u v = hx_al f ax u v := by
  by_cases hu : hx_in u 12 = true
  · by_cases hv : hx_in v 12 = true
    · obtain ⟨a, ha, rfl⟩ := hx_in_nat (n := 12) (by decide) hu
      obtain ⟨b, hb, rfl⟩ := hx_in_nat (n := 12) (by decide) hv
      rw [hx_col_n ha hb, hx_fill_at _ _ (by omega), show (a * 12 + b) / 12 = a by omega, show (a * 12 + b) % 12 = b by omega]
      rfl
    · rw [hx_col_y (Bool.eq_false_iff.mpr hv), hx_al_out h hax (fun q => hv q.2)]
  · rw [hx_col_x (Bool.eq_false_iff.mpr hu), hx_al_out h hax (fun q => hu q.1)]
theorem hx_sb0 (b : Int32) : hx_sb 0 0 b = 0 := by
  unfold hx_sb
  rw [if_pos rfl, if_pos (by decide)]
def hz_t (x w : Int32) : Nat := if x = w then 1 else 0
theorem hz_t_i (x w : Int32) : (if x = w then (1 : Int32) else 0) = nI (hz_t x w) := by
  unfold hz_t
  split <;> rfl
theorem hz_t0 {w : Int32} (hw : ¬ w = 0) : hz_t 0 w = 0 := if_neg (fun q => hw q.symm)
theorem hz_in_no {c : Nat} (h1 : ¬ c < 12) (h2 : c < 100) : ¬ hx_in (nI c) 12 = true := fun q => by
  have := (hx_in12 _).mp q
  rw [nI_toInt (by omega)] at this
  omega
theorem hq_sk {f bi : Nat → Int32} {s : Nat} (h : hs_R f bi s) (hs : s < 6) {ax : Int32} (hax : ax = 0 ∨ ax = 1 ∨ ax = 2) (F : Nat → Int32) (b w : Int32) (hw : ¬ w = 0) : hc_sk (hx_fill (hx_vw f ax) F) b w = hy_sk bi s ax b w := by
  have e1 : hc_sk (hx_fill (hx_vw f ax) F) b w = nI (hn_sum (fun u => hn_sum (fun v => hz_t (hy_st bi s ax b (nI u) (nI v) 0) w + hz_t (hy_st bi s ax b (nI u) (nI v) 1) w) 13) 13) := by
    unfold hc_sk
    refine hm_it_sum0 (g := fun u => hn_sum (fun v => hz_t (hy_st bi s ax b (nI u) (nI v) 0) w + hz_t (hy_st bi s ax b (nI u) (nI v) 1) w) 13) (fun u n hu => ?_)
    refine hm_it_add (g := fun v => hz_t (hy_st bi s ax b (nI u) (nI v) 0) w + hz_t (hy_st bi s ax b (nI u) (nI v) 1) w) (fun v n hv => ?_) n
    unfold hc_sk1
    rw [hz_vw h hax, hz_vw h hax, hz_vw h hax, (hq_st h hs hax b (nI u) (nI v)).1, (hq_st h hs hax b (nI u) (nI v)).2]
    unfold hz_t
    by_cases h1 : hy_st bi s ax b (nI u) (nI v) 1 = w
    · rw [if_pos h1, if_pos h1]
      by_cases h2 : hy_st bi s ax b (nI u) (nI v) 0 = w
      · rw [if_pos h2, if_pos h2, Int32.add_assoc]; rfl
      · rw [if_neg h2, if_neg h2]; rfl
    · rw [if_neg h1, if_neg h1]
      by_cases h2 : hy_st bi s ax b (nI u) (nI v) 0 = w
      · rw [if_pos h2, if_pos h2]; rfl
      · rw [if_neg h2, if_neg h2]; exact (Int32.add_zero n).symm
  have e2 : hy_sk bi s ax b w = nI (hn_sum (fun u => hn_sum (fun v => hz_t (hy_st bi s ax b (nI u) (nI v) 0) w + hz_t (hy_st bi s ax b (nI v) (nI u) 1) w) 12) 13) := by
    unfold hy_sk
    refine hm_it_sum0 (g := fun u => hn_sum (fun v => hz_t (hy_st bi s ax b (nI u) (nI v) 0) w + hz_t (hy_st bi s ax b (nI v) (nI u) 1) w) 12) (fun u n hu => ?_)
    refine hm_it_add (g := fun v => hz_t (hy_st bi s ax b (nI u) (nI v) 0) w + hz_t (hy_st bi s ax b (nI v) (nI u) 1) w) (fun v n hv => ?_) n
    unfold hy_sk1
    rw [hz_t_i, hz_t_i, Int32.add_assoc, nI_add]
  rw [e1, e2]
  refine congrArg nI ?_
  have z0 : ∀ u : Nat, hz_t (hy_st bi s ax b (nI u) (nI 12) 0) w = 0 := by
    intro u
    rw [← (hq_st h hs hax b (nI u) (nI 12)).1, hx_al_out h hax (fun q => hz_in_no (by decide) (by decide) q.2), hx_al_out h hax (fun q => hz_in_no (by decide) (by decide) q.2), hx_sb0, hz_t0 hw]
  have z1 : ∀ v : Nat, hz_t (hy_st bi s ax b (nI 12) (nI v) 1) w = 0 := by
    intro v
    rw [← (hq_st h hs hax b (nI 12) (nI v)).2, hx_al_out h hax (fun q => hz_in_no (by decide) (by decide) q.1), hx_al_out h hax (fun q => hz_in_no (by decide) (by decide) q.1), hx_sb0, hz_t0 hw]
  have p1 : ∀ G H : Nat → Nat → Nat, ∀ a b : Nat, hn_sum (fun u => hn_sum (fun v => G u v + H u v) b) a = hn_sum (fun u => hn_sum (fun v => G u v) b) a + hn_sum (fun u => hn_sum (fun v => H u v) b) a := by
    intro G H a b
    rw [← hn_sum_add]
    exact hn_sum_congr (fun u _ => hn_sum_add _ _ _)
  rw [p1 (fun u v => hz_t (hy_st bi s ax b (nI u) (nI v) 0) w) (fun u v => hz_t (hy_st bi s ax b (nI u) (nI v) 1) w), p1 (fun u v => hz_t (hy_st bi s ax b (nI u) (nI v) 0) w) (fun u v => hz_t (hy_st bi s ax b (nI v) (nI u) 1) w)]
  rw [hn_sum_swap (fun u v => hz_t (hy_st bi s ax b (nI v) (nI u) 1) w) 13 12]
  have y0 : hn_sum (fun u => hn_sum (fun v => hz_t (hy_st bi s ax b (nI u) (nI v) 0) w) 13) 13 = hn_sum (fun u => hn_sum (fun v => hz_t (hy_st bi s ax b (nI u) (nI v) 0) w) 12) 13 := hn_sum_congr (fun u _ => hn_sum_last (z0 u))
  have y1 : hn_sum (fun u => hn_sum (fun v => hz_t (hy_st bi s ax b (nI u) (nI v) 1) w) 13) 13 = hn_sum (fun u => hn_sum (fun v => hz_t (hy_st bi s ax b (nI u) (nI v) 1) w) 13) 12 := hn_sum_last (hn_sum_zero (fun v _ => z1 v))
  rw [y0, y1]
