theorem hsRel.draft {cols : Nat → Nat → Int32} {sol oth : Nat → Nat} {out : Nat} {num : Nat → Int32} {o d t : Nat} {bi wh : Nat → Int32} {w : Nat → Nat} {S : Nat → Nat → Nat → Int32} (h : hsRel cols sol oth out num o d t bi wh w S) {b : Nat → Int32} (hb : ∀ j, j < 864 ∨ 1008 ≤ j → b j = bi j) : hsRel cols sol oth out num o d t b wh w S := by
  have hdt := h.hdt
  refine ⟨h.ho, h.hdt, h.inj, h.hw, fun s i hs hi => ?_, h.lo, fun j i hj hi => ?_, h.oth1, h.dn, h.un⟩
  · rw [hb _ (by omega)]; exact h.cur s i hs hi
  · rw [hb _ (by omega), hb _ (by omega)]; exact h.bef j i hj hi
theorem hl_boxv (x y z w d t : Int32) : (hx_str x w && (hx_str y d && hx_str z t)) = (hx_in x 12 && (hx_in y 12 && (hx_in z 12 && (!(decide (w ≤ 0)) && (!(decide (d ≤ 0)) && (!(decide (t ≤ 0)) && (!(decide (12 < w)) && (!(decide (12 < d)) && (!(decide (12 < t)) && (!(decide (12 < x + w)) && (!(decide (12 < y + d)) && !(decide (12 < z + t))))))))))))) := by
  rw [Bool.eq_iff_iff]
  simp only [Bool.and_eq_true, Bool.not_eq_true', decide_eq_false_iff_not]
  constructor
  · rintro ⟨h1, h2, h3⟩
    have a1 := (hy_str_iff x w).mpr ((hx_str_iff x w).mp h1)
    have a2 := (hy_str_iff y d).mpr ((hx_str_iff y d).mp h2)
    have a3 := (hy_str_iff z t).mpr ((hx_str_iff z t).mp h3)
    exact ⟨a1.1, a2.1, a3.1, a1.2.1, a2.2.1, a3.2.1, a1.2.2.1, a2.2.2.1, a3.2.2.1, a1.2.2.2, a2.2.2.2, a3.2.2.2⟩
  · rintro ⟨a1, a2, a3, b1, b2, b3, c1, c2, c3, d1, d2, d3⟩
    exact ⟨(hx_str_iff x w).mpr ((hy_str_iff x w).mp ⟨a1, b1, c1, d1⟩), (hx_str_iff y d).mpr ((hy_str_iff y d).mp ⟨a2, b2, c2, d2⟩), (hx_str_iff z t).mpr ((hy_str_iff z t).mp ⟨a3, b3, c3, d3⟩)⟩
theorem hl_box {x y z w d t : Int32} (h : (hx_str x w && (hx_str y d && hx_str z t)) = true) (bi F : Nat → Int32) : (∀ j, j < 864 ∨ 1008 ≤ j → (hx_it (fun k b => hy_put b (x.toNatClampNeg + (k % w.toNatClampNeg)) (y.toNatClampNeg + ((k / w.toNatClampNeg) % d.toNatClampNeg)) (nI (z.toNatClampNeg + ((k / w.toNatClampNeg) / d.toNatClampNeg)))) ((w.toNatClampNeg * d.toNatClampNeg) * t.toNatClampNeg) (hy_clr bi)) j = bi j) ∧ ∀ i, i < 144 → hx_fill (hx_bx x y z ((x + w) - 1) ((y + d) - 1) ((z + t) - 1)) F i = (hx_it (fun k b => hy_put b (x.toNatClampNeg + (k % w.toNatClampNeg)) (y.toNatClampNeg + ((k / w.toNatClampNeg) % d.toNatClampNeg)) (nI (z.toNatClampNeg + ((k / w.toNatClampNeg) / d.toNatClampNeg)))) ((w.toNatClampNeg * d.toNatClampNeg) * t.toNatClampNeg) (hy_clr bi)) (864 + i) ∧ hb_lo 12 (hx_fill (hx_bx x y z ((x + w) - 1) ((y + d) - 1) ((z + t) - 1)) F i) := by
  simp only [Bool.and_eq_true] at h
  obtain ⟨a, n, ha, rfl, rfl, h1, h2⟩ := (hx_str_iff _ _).mp h.1
  obtain ⟨a', n', ha', rfl, rfl, h1', h2'⟩ := (hx_str_iff _ _).mp h.2.1
  obtain ⟨a2, n2, ha2, rfl, rfl, h12, h22⟩ := (hx_str_iff _ _).mp h.2.2
  rw [nI_clamp (n := a) (by omega), nI_clamp (n := n) (by omega), nI_clamp (n := a') (by omega), nI_clamp (n := n') (by omega), nI_clamp (n := a2) (by omega), nI_clamp (n := n2) (by omega)]
  exact hq_box h1 h1' h12 h2 h2' h22 F rfl
theorem hl_swv (a b : Int32) : (!(decide (b < a)) && (hx_in a 12 && hx_in b 12)) = (hx_in a 12 && (hx_in b 12 && decide (a ≤ b))) := by
  rw [Bool.eq_iff_iff]
  simp only [Bool.and_eq_true, Bool.not_eq_true', decide_eq_false_iff_not, decide_eq_true_eq, Int32.not_lt]
  exact ⟨fun q => ⟨q.2.1, q.2.2, q.1⟩, fun q => ⟨q.2.2, q.1, q.2.1⟩⟩
theorem hl_sweep {f bi : Nat → Int32} {s : Nat} (h : hs_R f bi s) (hs : s < 6) {ax : Int32} (hax : ax = 0 ∨ ax = 1 ∨ ax = 2) {w a b : Int32} (hw : hx_in w 12 = true) (hv : (!(decide (b < a)) && (hx_in a 12 && hx_in b 12)) = true) (F : Nat → Int32) : (∀ j, j < 864 ∨ 1008 ≤ j → (hx_it (fun u F => hx_it (fun v F => hy_swl s ax w u v (b.toNatClampNeg + 1 - a.toNatClampNeg) a.toNatClampNeg F) 12 F) 12 (hy_clr bi)) j = bi j) ∧ ∀ i, i < 144 → hx_fill (hx_sw f ax w a b) F i = (hx_it (fun u F => hx_it (fun v F => hy_swl s ax w u v (b.toNatClampNeg + 1 - a.toNatClampNeg) a.toNatClampNeg F) 12 F) 12 (hy_clr bi)) (864 + i) ∧ hb_lo 12 (hx_fill (hx_sw f ax w a b) F i) := by
  simp only [Bool.and_eq_true, Bool.not_eq_true', decide_eq_false_iff_not] at hv
  obtain ⟨j, hj, rfl⟩ := hx_in_nat (n := 12) (by decide) hw
  obtain ⟨a0, ha0, rfl⟩ := hx_in_nat (n := 12) (by decide) hv.2.1
  obtain ⟨b0, hb0, rfl⟩ := hx_in_nat (n := 12) (by decide) hv.2.2
  rw [nI_clamp (n := b0) (by omega), nI_clamp (n := a0) (by omega)]
  exact hq_sweep h hs hax hj ((nI_leI (by omega) (by omega)).mp (Int32.not_lt.mp hv.1)) hb0 F rfl
