theorem hz_11 {y : Nat} (hy : y < 12) : (11 : Int32) - nI y = nI (11 - y) := pk_sub (a := 11) (by omega)
theorem hq_turn {f bi : Nat → Int32} {s : Nat} (h : hs_R f bi s) (hs : s < 6) {ax : Int32} (hax : ax = 0 ∨ ax = 1 ∨ ax = 2) (F : Nat → Int32) {b : Nat → Int32} (hb : b = hx_it (fun k b => if hy_tc b s ax k = true then hy_put b (k / 144) ((k / 12) % 12) (nI (k % 12)) else b) 1728 (hy_clr bi)) : (∀ j, j < 864 ∨ 1008 ≤ j → b j = bi j) ∧ ∀ i, i < 144 → hx_fill (fun x y => hx_tc f ax (nI x) (nI y)) F i = b (864 + i) ∧ hb_lo 12 (hx_fill (fun x y => hx_tc f ax (nI x) (nI y)) F i) := by
  subst hb
  have D := hz_D_grid (bi := bi) (P := fun b k => hy_tc b s ax k) (fun b M k hD => by unfold hy_tc; rw [hz_D_has hD hs, hz_D_has hD hs, hz_D_has hD hs])
  refine ⟨D.1, hz_D_eq D (fun i hi z hz => ?_) (fun i z _ _ q => q.1)⟩
  rw [hx_fill_at _ _ hi]
  have hy : i % 12 < 12 := by omega
  have hx : i / 12 < 12 := by omega
  unfold hx_tc
  rcases hax with rfl | rfl | rfl
  · rw [if_pos rfl]
    refine hz_bits (p := fun z => hy_tc bi s 0 (i * 12 + z)) (hz_al_lo h (Or.inr (Or.inl rfl)) _ _) (fun z hz => ?_) hz
    unfold hy_tc
    rw [if_pos rfl, hz_al h (Or.inr (Or.inl rfl)) _ _ (by omega), hz_has h hs, hz_h1', show (i * 12 + z) / 144 = i / 12 by omega, show ((i * 12 + z) / 12) % 12 = i % 12 by omega, show (i * 12 + z) % 12 = z by omega, hz_11 hy, nI_toInt (by omega), nI_toInt (by omega), nI_toInt (by omega)]
  · rw [if_neg (by decide), if_pos rfl]
    refine hz_bits (p := fun z => hy_tc bi s 1 (i * 12 + z)) (fun z h1 h2 => hx_rev_hi h1 h2) (fun z hz => ?_) hz
    unfold hy_tc
    rw [if_neg (by decide), if_pos rfl, hx_rev_b (hz_al_lo h (Or.inl rfl) _ _) hz, hz_al h (Or.inl rfl) _ _ (by omega), hz_has h hs, hz_h0', show (i * 12 + z) / 144 = i / 12 by omega, show ((i * 12 + z) / 12) % 12 = i % 12 by omega, show (i * 12 + z) % 12 = z by omega, hz_11 hz, nI_toInt (by omega), nI_toInt (by omega), nI_toInt (by omega)]
  · rw [if_neg (by decide), if_neg (by decide)]
    refine hz_bits (p := fun z => hy_tc bi s 2 (i * 12 + z)) (hz_col_lo h _ _) (fun z hz => ?_) hz
    unfold hy_tc
    rw [if_neg (by decide), if_neg (by decide), hz_col h _ _ (by omega), hz_has h hs, show (i * 12 + z) / 144 = i / 12 by omega, show ((i * 12 + z) / 12) % 12 = i % 12 by omega, show (i * 12 + z) % 12 = z by omega, hz_11 hx, nI_toInt (by omega), nI_toInt (by omega), nI_toInt (by omega)]
theorem hq_mirror {f bi : Nat → Int32} {s : Nat} (h : hs_R f bi s) (hs : s < 6) {ax : Int32} (hax : ax = 0 ∨ ax = 1 ∨ ax = 2) (F : Nat → Int32) {b : Nat → Int32} (hb : b = hx_it (fun k b => if hy_mc b s ax k = true then hy_put b (k / 144) ((k / 12) % 12) (nI (k % 12)) else b) 1728 (hy_clr bi)) : (∀ j, j < 864 ∨ 1008 ≤ j → b j = bi j) ∧ ∀ i, i < 144 → hx_fill (fun x y => hx_mc f ax (nI x) (nI y)) F i = b (864 + i) ∧ hb_lo 12 (hx_fill (fun x y => hx_mc f ax (nI x) (nI y)) F i) := by
  subst hb
  have D := hz_D_grid (bi := bi) (P := fun b k => hy_mc b s ax k) (fun b M k hD => by unfold hy_mc; rw [hz_D_has hD hs])
  refine ⟨D.1, hz_D_eq D (fun i hi z hz => ?_) (fun i z _ _ q => q.1)⟩
  rw [hx_fill_at _ _ hi]
  have hy : i % 12 < 12 := by omega
  have hx : i / 12 < 12 := by omega
  unfold hx_mc
  rcases hax with rfl | rfl | rfl
  · rw [if_pos rfl]
    refine hz_bits (p := fun z => hy_mc bi s 0 (i * 12 + z)) (hz_col_lo h _ _) (fun z hz => ?_) hz
    unfold hy_mc
    rw [if_pos rfl, if_neg (by decide), if_neg (by decide), hz_col h _ _ (by omega), hz_has h hs, show (i * 12 + z) / 144 = i / 12 by omega, show ((i * 12 + z) / 12) % 12 = i % 12 by omega, show (i * 12 + z) % 12 = z by omega, hz_11 hx, nI_toInt (n := z) (by omega)]
  · rw [if_neg (by decide), if_pos rfl]
    refine hz_bits (p := fun z => hy_mc bi s 1 (i * 12 + z)) (hz_col_lo h _ _) (fun z hz => ?_) hz
    unfold hy_mc
    rw [if_neg (by decide), if_pos rfl, if_neg (by decide), hz_col h _ _ (by omega), hz_has h hs, show (i * 12 + z) / 144 = i / 12 by omega, show ((i * 12 + z) / 12) % 12 = i % 12 by omega, show (i * 12 + z) % 12 = z by omega, hz_11 hy, nI_toInt (n := z) (by omega)]
  · rw [if_neg (by decide), if_neg (by decide)]
    refine hz_bits (p := fun z => hy_mc bi s 2 (i * 12 + z)) (fun z h1 h2 => hx_rev_hi h1 h2) (fun z hz => ?_) hz
    unfold hy_mc
    rw [if_neg (by decide), if_neg (by decide), if_pos rfl, hx_rev_b (hz_col_lo h _ _) hz, hz_col h _ _ (by omega), hz_has h hs, show (i * 12 + z) / 144 = i / 12 by omega, show ((i * 12 + z) / 12) % 12 = i % 12 by omega, show (i * 12 + z) % 12 = z by omega, hz_11 hz, nI_toInt (n := 11 - z) (by omega)]
theorem hx_str_iff (x w : Int32) : hx_str x w = true ↔ ∃ a n : Nat, a < 12 ∧ x = nI a ∧ w = nI n ∧ 1 ≤ n ∧ a + n ≤ 12 := by
  unfold hx_str
  simp only [Bool.and_eq_true, Bool.not_eq_true', decide_eq_false_iff_not]
  constructor
  · rintro ⟨h1, h2, h3⟩
    obtain ⟨a, ha, rfl⟩ := hx_in_nat (n := 12) (by decide) h1
    have e : (12 : Int32) - nI a = nI (12 - a) := pk_sub (a := 12) (by omega)
    rw [e] at h3
    have h0 : ¬ w < 0 := fun q => h2 (Int32.lt_of_lt_of_le q (by decide))
    obtain ⟨n, hn, rfl⟩ := nI_of2 (M := nI (12 - a)) (n := 12 - a) (nI_toInt (by omega)) h0 (Int32.not_lt.mp h3)
    refine ⟨a, n, ha, rfl, rfl, ?_, by omega⟩
    apply Nat.lt_of_not_le
    intro q
    apply h2
    show nI n < nI 1
    exact nI_lt (by omega) (by decide)
  · rintro ⟨a, n, ha, rfl, rfl, h1, h2⟩
    have e : (12 : Int32) - nI a = nI (12 - a) := pk_sub (a := 12) (by omega)
    rw [e]
    exact ⟨hx_in_lt (n := 12) ha (by decide), nI_nlt (b := 1) h1 (by omega), nI_nlt (by omega) (by omega)⟩
theorem hy_str_iff (x w : Int32) : (hx_in x 12 = true ∧ ¬ w ≤ 0 ∧ ¬ 12 < w ∧ ¬ 12 < x + w) ↔ ∃ a n : Nat, a < 12 ∧ x = nI a ∧ w = nI n ∧ 1 ≤ n ∧ a + n ≤ 12 := by
  constructor
  · rintro ⟨h1, h2, h3, h4⟩
    obtain ⟨a, ha, rfl⟩ := hx_in_nat (n := 12) (by decide) h1
    obtain ⟨n, h5, h6, rfl⟩ := hx_pos_nat h2 h3
    refine ⟨a, n, ha, rfl, rfl, h5, ?_⟩
    apply Nat.le_of_not_lt
    intro q
    apply h4
    rw [nI_add]
    exact nI_lt (a := 12) (by omega) (by omega)
  · rintro ⟨a, n, ha, rfl, rfl, h1, h2⟩
    refine ⟨hx_in_lt (n := 12) ha (by decide), nI_nle (by omega) (by omega), nI_nlt (b := n) (a := 12) (by omega) (by decide), ?_⟩
    rw [nI_add]
    exact nI_nlt (b := a + n) (a := 12) (by omega) (by decide)
theorem hx_span_all : ∀ c, c < 12 → ∀ e, e < 12 → c ≤ e → ∀ z, z < 32 → bt (hx_span (nI c) (nI e)) z = decide (c ≤ z ∧ z ≤ e) := by decide +kernel
theorem hz_rem {w d p q r : Nat} (hr : r < w) (hq : q < d) : ((p * d + q) * w + r) % w = r ∧ ((p * d + q) * w + r) / w % d = q ∧ ((p * d + q) * w + r) / w / d = p := by
  have e1 : ((p * d + q) * w + r) % w = r := by rw [Nat.mul_comm, Nat.mul_add_mod, Nat.mod_eq_of_lt hr]
  have e2 : ((p * d + q) * w + r) / w = p * d + q := by rw [Nat.mul_comm, Nat.mul_add_div (by omega), Nat.div_eq_of_lt hr, Nat.add_zero]
  rw [e1, e2]
  refine ⟨rfl, ?_, ?_⟩
  · rw [Nat.mul_comm, Nat.mul_add_mod, Nat.mod_eq_of_lt hq]
  · rw [Nat.mul_comm, Nat.mul_add_div (by omega), Nat.div_eq_of_lt hq, Nat.add_zero]
theorem hz_kl {w d t p q r : Nat} (hp : p < t) (hq : q < d) (hr : r < w) : (p * d + q) * w + r < (w * d) * t := by
  have h1 : p * d + q < t * d := by
    have : (p + 1) * d ≤ t * d := Nat.mul_le_mul_right d hp
    rw [Nat.succ_mul] at this
    omega
  have h2 : (p * d + q + 1) * w ≤ (t * d) * w := Nat.mul_le_mul_right w h1
  rw [Nat.succ_mul] at h2
  rw [show (w * d) * t = (t * d) * w by rw [Nat.mul_comm (w * d) t, Nat.mul_comm w d, Nat.mul_assoc]]
  omega
theorem hq_box {bi : Nat → Int32} {a0 b0 c0 w d t : Nat} (hw : 1 ≤ w) (hd : 1 ≤ d) (ht : 1 ≤ t) (ha : a0 + w ≤ 12) (hb0 : b0 + d ≤ 12) (hc : c0 + t ≤ 12) (F : Nat → Int32) {b : Nat → Int32} (hb : b = hx_it (fun k b => hy_put b (a0 + (k % w)) (b0 + ((k / w) % d)) (nI (c0 + ((k / w) / d)))) ((w * d) * t) (hy_clr bi)) : (∀ j, j < 864 ∨ 1008 ≤ j → b j = bi j) ∧ ∀ i, i < 144 → hx_fill (hx_bx (nI a0) (nI b0) (nI c0) ((nI a0 + nI w) - 1) ((nI b0 + nI d) - 1) ((nI c0 + nI t) - 1)) F i = b (864 + i) ∧ hb_lo 12 (hx_fill (hx_bx (nI a0) (nI b0) (nI c0) ((nI a0 + nI w) - 1) ((nI b0 + nI d) - 1) ((nI c0 + nI t) - 1)) F i) := by
  subst hb
  have hk3 : ∀ k, k < (w * d) * t → k / w / d < t := fun k hk => by
    rw [Nat.div_div_eq_div_mul]
    exact Nat.div_lt_of_lt_mul hk
  have D := hz_D_fold (bi := bi) (P := fun _ _ => true) (A := fun k => a0 + (k % w)) (B := fun k => b0 + ((k / w) % d)) (C := fun k => c0 + ((k / w) / d)) (N := (w * d) * t) (fun _ _ _ _ => rfl) (fun k hk _ => by
    have h1 := Nat.mod_lt k (show w > 0 by omega)
    have h2 := Nat.mod_lt (k / w) (show d > 0 by omega)
    have h3 := hk3 k hk
    exact ⟨by omega, by omega, by omega⟩) ((w * d) * t) (Nat.le_refl _)
  have eq0 : hx_it (fun k b => if (fun (_ : Nat → Int32) (_ : Nat) => true) b k = true then hy_put b (a0 + (k % w)) (b0 + ((k / w) % d)) (nI (c0 + ((k / w) / d))) else b) ((w * d) * t) (hy_clr bi) = hx_it (fun k b => hy_put b (a0 + (k % w)) (b0 + ((k / w) % d)) (nI (c0 + ((k / w) / d)))) ((w * d) * t) (hy_clr bi) := hx_it_congr (fun i b _ => if_pos rfl)
  have D2 := D
  rw [eq0] at D2
  have D3 := hz_D_mono (N := fun i z => (a0 ≤ i / 12 ∧ i / 12 < a0 + w) ∧ (b0 ≤ i % 12 ∧ i % 12 < b0 + d) ∧ (c0 ≤ z ∧ z < c0 + t)) D2 (fun i z hi hz => ⟨?_, ?_⟩)
  · refine ⟨D3.1, hz_D_eq D3 (fun i hi z hz => ?_) (fun i z _ _ q => by omega)⟩
    rw [hx_fill_at _ _ hi]
    unfold hx_bx
    rw [nI_add, nI_add, nI_add, show nI (a0 + w) - 1 = nI (a0 + w - 1) from pk_sub (b := 1) (by omega), show nI (b0 + d) - 1 = nI (b0 + d - 1) from pk_sub (b := 1) (by omega), show nI (c0 + t) - 1 = nI (c0 + t - 1) from pk_sub (b := 1) (by omega)]
    have hcond : (nI (i / 12) < nI a0 ∨ nI (a0 + w - 1) < nI (i / 12) ∨ nI (i % 12) < nI b0 ∨ nI (b0 + d - 1) < nI (i % 12)) ↔ (i / 12 < a0 ∨ a0 + w - 1 < i / 12 ∨ i % 12 < b0 ∨ b0 + d - 1 < i % 12) := by
      rw [nI_ltI (by omega) (by omega), nI_ltI (by omega) (by omega), nI_ltI (by omega) (by omega), nI_ltI (by omega) (by omega)]
    by_cases hq : i / 12 < a0 ∨ a0 + w - 1 < i / 12 ∨ i % 12 < b0 ∨ b0 + d - 1 < i % 12
    · rw [if_pos (hcond.mpr hq), b_0]
      exact ⟨fun q => (by cases q), fun q => (by omega)⟩
    · rw [if_neg (fun q => hq (hcond.mp q)), hx_span_all c0 (by omega) _ (by omega) (by omega) z hz, decide_eq_true_eq]
      omega
  · rintro ⟨k, h1, -, h3, h4⟩
    have q1 := Nat.mod_lt k (show w > 0 by omega)
    have q2 := Nat.mod_lt (k / w) (show d > 0 by omega)
    have q3 := hk3 k h1
    generalize k / w / d = p3 at h4 q3
    generalize k / w % d = p2 at h3 q2
    generalize k % w = p1 at h3 q1
    omega
  · rintro ⟨⟨h1, h2⟩, ⟨h3, h4⟩, h5, h6⟩
    obtain ⟨e1, e2, e3⟩ := hz_rem (w := w) (d := d) (p := z - c0) (q := i % 12 - b0) (r := i / 12 - a0) (by omega) (by omega)
    refine ⟨((z - c0) * d + (i % 12 - b0)) * w + (i / 12 - a0), hz_kl (by omega) (by omega) (by omega), rfl, ?_, ?_⟩
    · rw [e1, e2]; omega
    · rw [e3]; omega
