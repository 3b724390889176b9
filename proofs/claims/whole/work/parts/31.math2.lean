def hz_c (f : Nat → Int32) (x y z : Int) : Bool := if 0 ≤ x ∧ x < 12 ∧ 0 ≤ y ∧ y < 12 ∧ 0 ≤ z ∧ z < 12 then bt (f (x.toNat * 12 + y.toNat)) z.toNat else false
theorem hz_c_n {f : Nat → Int32} {a b c : Nat} (ha : a < 12) (hb : b < 12) (hc : c < 12) : hz_c f a b c = bt (f (a * 12 + b)) c := by
  unfold hz_c
  rw [if_pos (by omega)]
  simp
theorem hz_c_out {f : Nat → Int32} {x y z : Int} (h : ¬ (0 ≤ x ∧ x < 12 ∧ 0 ≤ y ∧ y < 12 ∧ 0 ≤ z ∧ z < 12)) : hz_c f x y z = false := by
  unfold hz_c
  rw [if_neg h]
theorem hx_in_iff (c : Int32) {n : Nat} (hn : n < 2 ^ 31) : hx_in c (nI n) = true ↔ 0 ≤ c.toInt ∧ c.toInt < n := by
  constructor
  · intro h
    obtain ⟨j, hj, rfl⟩ := hx_in_nat hn h
    rw [nI_toInt (by omega)]
    omega
  · intro h
    obtain ⟨j, hj, rfl⟩ := vp_in_of (vp_in_iff.mpr h) hn
    exact hx_in_lt hj hn
theorem hx_in12 (c : Int32) : hx_in c 12 = true ↔ 0 ≤ c.toInt ∧ c.toInt < 12 := hx_in_iff c (n := 12) (by decide)
theorem hx_in13 (c : Int32) : hx_in c 13 = true ↔ 0 ≤ c.toInt ∧ c.toInt < 13 := hx_in_iff c (n := 13) (by decide)
theorem hx_pl13 (c : Int32) : hx_pl c = hx_in c 13 := by
  unfold hx_pl hx_in
  have e : (decide (12 < c)) = decide (13 ≤ c) := by
    apply decide_eq_decide.mpr
    rw [Int32.lt_iff_toInt_lt, Int32.le_iff_toInt_le]
    show (12 : Int) < c.toInt ↔ (13 : Int) ≤ c.toInt
    omega
  rw [e]
def hs_R (f bi : Nat → Int32) (s : Nat) : Prop := ∀ i, i < 144 → f i = bi (144 * s + i) ∧ hb_lo 12 (f i)
theorem hz_has {f bi : Nat → Int32} {s : Nat} (h : hs_R f bi s) (hs : s < 6) (x y z : Int32) : hy_has bi s x y z = hz_c f x.toInt y.toInt z.toInt := by
  unfold hy_has
  by_cases hx : hx_in x 12 = true
  · by_cases hy : hx_in y 12 = true
    · by_cases hz : hx_in z 12 = true
      · rw [hx, hy, hz, Bool.true_and, Bool.true_and, Bool.true_and]
        obtain ⟨a, ha, rfl⟩ := hx_in_nat (n := 12) (by decide) hx
        obtain ⟨b, hb, rfl⟩ := hx_in_nat (n := 12) (by decide) hy
        obtain ⟨c, hc, rfl⟩ := hx_in_nat (n := 12) (by decide) hz
        rw [nI_toInt (by omega), nI_toInt (by omega), nI_toInt (by omega), hz_c_n ha hb hc, hy_ixn, nI_clamp (by omega), (h (a * 12 + b) (by omega)).1, show 144 * s + (a * 12 + b) = 144 * s + 12 * a + b by omega]
        simp only [hb_test _ (show c < 32 by omega)]
        simp
      · rw [Bool.eq_false_iff.mpr hz, hz_c_out (fun q => hz ((hx_in12 z).mpr ⟨q.2.2.2.2.1, q.2.2.2.2.2⟩))]
        simp
    · rw [Bool.eq_false_iff.mpr hy, hz_c_out (fun q => hy ((hx_in12 y).mpr ⟨q.2.2.1, q.2.2.2.1⟩))]
      simp
  · rw [Bool.eq_false_iff.mpr hx, hz_c_out (fun q => hx ((hx_in12 x).mpr ⟨q.1, q.2.1⟩))]
    simp
theorem hz_col {f bi : Nat → Int32} {s : Nat} (h : hs_R f bi s) (x y : Int32) {c : Nat} (hc : c < 32) : bt (hx_col f x y) c = hz_c f x.toInt y.toInt c := by
  by_cases hx : hx_in x 12 = true
  · by_cases hy : hx_in y 12 = true
    · obtain ⟨a, ha, rfl⟩ := hx_in_nat (n := 12) (by decide) hx
      obtain ⟨b, hb, rfl⟩ := hx_in_nat (n := 12) (by decide) hy
      rw [hx_col_n ha hb, nI_toInt (by omega), nI_toInt (by omega)]
      by_cases h12 : c < 12
      · rw [hz_c_n ha hb h12]
      · rw [(h (a * 12 + b) (by omega)).2 c (by omega) hc, hz_c_out (by omega)]
    · rw [hx_col_y (Bool.eq_false_iff.mpr hy), b_0, hz_c_out (fun q => hy ((hx_in12 y).mpr ⟨q.2.2.1, q.2.2.2.1⟩))]
  · rw [hx_col_x (Bool.eq_false_iff.mpr hx), b_0, hz_c_out (fun q => hx ((hx_in12 x).mpr ⟨q.1, q.2.1⟩))]
theorem hz_col_lo {f bi : Nat → Int32} {s : Nat} (h : hs_R f bi s) (x y : Int32) : hb_lo 12 (hx_col f x y) := fun c h1 h2 => by
  rw [hz_col h x y h2, hz_c_out (by omega)]
