theorem hl_if {b : Bool} {w v v' : Int32} (h : b = true → v = v') : hc_if b w v = hc_if b w v' := by
  unfold hc_if
  cases b with
  | true => rw [if_pos rfl, if_pos rfl]; exact h rfl
  | false => rfl
theorem hl_in3 {ax : Int32} (h : hx_in ax 3 = true) : ax = 0 ∨ ax = 1 ∨ ax = 2 := by
  obtain ⟨j, hj, rfl⟩ := hx_in_nat (n := 3) (by decide) h
  rcases j with _ | _ | _ | j
  · exact Or.inl rfl
  · exact Or.inr (Or.inl rfl)
  · exact Or.inr (Or.inr rfl)
  · omega
theorem hl_in6 {s : Int32} (h : hx_in s 6 = true) : s.toNatClampNeg < 6 := by
  obtain ⟨j, hj, rfl⟩ := hx_in_nat (n := 6) (by decide) h
  rw [nI_clamp (by omega)]
  exact hj
theorem hl_rd {F : (Nat → Int32) → Int32} {cols : Nat → Nat → Int32} {sol : Nat → Nat} {G : Nat → Int32} (h : ∀ i, i < 6 → F (cols (sol i)) = G i) (s : Int32) : hc_rd F cols sol s = hc_if (hx_in s 6) (-1) (G s.toNatClampNeg) := by
  unfold hc_rd hc_if
  cases e : hx_in s 6 with
  | true => rw [if_pos rfl, if_pos rfl]; exact h _ (hl_in6 e)
  | false => rfl
section HlEq
variable {cols : Nat → Nat → Int32} {sol oth : Nat → Nat} {out : Nat} {num : Nat → Int32} {o d t : Nat} {bi wh : Nat → Int32} {w : Nat → Nat} {S : Nat → Nat → Nat → Int32}
theorem hl_volume (R : hsRel cols sol oth out num o d t bi wh w S) (s : Int32) : hc_rd (fun f => hx_cnt f) cols sol s = hc_if (hx_in s 6) (-1) (hy_cnt bi s.toNatClampNeg) := hl_rd (G := fun i => hy_cnt bi i) (fun i hi => hq_cnt (R.R hi)) s
theorem hl_sides (R : hsRel cols sol oth out num o d t bi wh w S) (s : Int32) : hc_rd (fun f => hx_sides f) cols sol s = hc_if (hx_in s 6) (-1) (hy_sd bi s.toNatClampNeg) := hl_rd (G := fun i => hy_sd bi i) (fun i hi => hq_sides (R.R hi) hi) s
theorem hl_edges (R : hsRel cols sol oth out num o d t bi wh w S) (s : Int32) : hc_rd (fun f => hx_edges f) cols sol s = hc_if (hx_in s 6) (-1) (hy_egs bi s.toNatClampNeg) := hl_rd (G := fun i => hy_egs bi i) (fun i hi => hq_edges (R.R hi) hi) s
theorem hl_pieces (R : hsRel cols sol oth out num o d t bi wh w S) (s : Int32) (X Y : HF) (b : Bool) : hc_if (hx_in s 6) (-1) (hf_pc (cols (sol s.toNatClampNeg)) X).2 = hc_if (hx_in s 6) (-1) (hm_sets bi s.toNatClampNeg 1 Y b).2 := hl_if (fun h => hq_pieces (R.R (hl_in6 h)) (hl_in6 h) X Y b)
theorem hl_hollows (R : hsRel cols sol oth out num o d t bi wh w S) (s : Int32) (X Y : HF) (b : Bool) : hc_if (hx_in s 6) (-1) (hf_hl (cols (sol s.toNatClampNeg)) X).2 = hc_if (hx_in s 6) (-1) (hm_sets bi s.toNatClampNeg 0 Y b).2 := hl_if (fun h => hq_hollows (R.R (hl_in6 h)) (hl_in6 h) X Y b)
theorem hl_moment (R : hsRel cols sol oth out num o d t bi wh w S) (s ax : Int32) : hc_if (hx_in s 6 && hx_in ax 3) (-1) (hc_mom (cols (sol s.toNatClampNeg)) ax) = hc_if (hx_in s 6 && hx_in ax 3) (-1) (hy_mom bi s.toNatClampNeg ax) := hl_if (fun h => by
  rw [Bool.and_eq_true] at h
  exact hq_mom (R.R (hl_in6 h.1)) (hl_in6 h.1) (hl_in3 h.2))
theorem hl_extent (R : hsRel cols sol oth out num o d t bi wh w S) (s ax e0 : Int32) : hc_if (hx_in s 6 && hx_in ax 3) (-1) (if e0 = 0 then hx_least (cols (sol s.toNatClampNeg)) ax else if e0 = 1 then hx_great (cols (sol s.toNatClampNeg)) ax else -1) = hc_if (hx_in s 6 && (hx_in ax 3 && (!(decide (e0 < 0)) && decide (e0 ≤ 1)))) (-1) (if e0 = 0 then (hy_ex bi s.toNatClampNeg ax).1 else (hy_ex bi s.toNatClampNeg ax).2) := by
  cases h1 : hx_in s 6 with
  | false => rfl
  | true =>
    cases h2 : hx_in ax 3 with
    | false => rfl
    | true =>
      rw [hq_ext (R.R (hl_in6 h1)) (hl_in6 h1) (hl_in3 h2)]
      unfold hc_if
      simp only [Bool.true_and]
      by_cases e1 : e0 = 0
      · subst e1; rfl
      · by_cases e2 : e0 = 1
        · subst e2; rfl
        · have : (!(decide (e0 < 0)) && decide (e0 ≤ 1)) = false := by
            rw [Bool.and_eq_false_iff, Bool.not_eq_false', decide_eq_true_eq, decide_eq_false_iff_not]
            apply Classical.byContradiction
            intro q
            have q1 : ¬ e0 < 0 := fun r => q (Or.inl r)
            have q2 : e0 ≤ 1 := Classical.byContradiction fun r => q (Or.inr r)
            obtain ⟨j, hj, rfl⟩ := nI_of2 (M := 1) (n := 1) rfl q1 q2
            rcases j with _ | _ | j
            · exact e1 rfl
            · exact e2 rfl
            · omega
          rw [this, if_neg e1, if_neg e2]
          rfl
theorem hl_inside (R : hsRel cols sol oth out num o d t bi wh w S) (s x y z : Int32) : hc_if (hx_in s 6 && (hx_pl x && (hx_pl y && hx_pl z))) (-9) (if hx_ar (cols (sol s.toNatClampNeg)) x y z = 0 then -1 else if hx_ar (cols (sol s.toNatClampNeg)) x y z = 8 then 1 else 0) = hc_if (hx_in s 6 && (hx_in x 13 && (hx_in y 13 && hx_in z 13))) (-9) (if hy_ins bi s.toNatClampNeg x y z = 8 then 1 else if hy_ins bi s.toNatClampNeg x y z ≤ 0 then -1 else 0) := by
  rw [hx_pl13, hx_pl13, hx_pl13]
  refine hl_if (fun h => ?_)
  simp only [Bool.and_eq_true] at h
  obtain ⟨c, hc, rfl⟩ := hx_in_nat (n := 13) (by decide) h.2.2.2
  obtain ⟨m, hm, e1, e2⟩ := hq_ins (R.R (hl_in6 h.1)) (hl_in6 h.1) x y hc
  rw [e1, e2]
  have k : ∀ m, m ≤ 8 → (if nI m = 0 then (-1 : Int32) else if nI m = 8 then 1 else 0) = (if nI m = 8 then 1 else if nI m ≤ 0 then -1 else 0) := by decide
  exact k m hm
theorem hl_section (R : hsRel cols sol oth out num o d t bi wh w S) (s ax w0 : Int32) : hc_if (hx_in s 6 && (hx_in ax 3 && hx_in w0 12)) (-1) (hx_layer (cols (sol s.toNatClampNeg)) ax w0) = hc_if (hx_in s 6 && (hx_in ax 3 && hx_in w0 12)) (-1) (hy_at bi s.toNatClampNeg ax w0) := hl_if (fun h => by
  simp only [Bool.and_eq_true] at h
  exact hq_layer (R.R (hl_in6 h.1)) (hl_in6 h.1) (hl_in3 h.2.1) w0)
theorem hl_same (R : hsRel cols sol oth out num o d t bi wh w S) (s t0 : Int32) : hx_b (hx_in s 6 && (hx_in t0 6 && hx_eq (cols (sol s.toNatClampNeg)) (cols (sol t0.toNatClampNeg)) 144)) = hx_b (hx_in s 6 && (hx_in t0 6 && hy_same bi s.toNatClampNeg t0.toNatClampNeg)) := by
  cases h1 : hx_in s 6 with
  | false => simp only [Bool.false_and]
  | true =>
    cases h2 : hx_in t0 6 with
    | false => simp only [Bool.false_and, Bool.and_false]
    | true => rw [hq_same (R.R (hl_in6 h1)) (R.R (hl_in6 h2))]
theorem hl_depth (R : hsRel cols sol oth out num o d t bi wh w S) (s ax b u v : Int32) : hc_if (hx_in s 6 && (hx_in ax 3 && (hx_in u 12 && hx_in v 12))) (-1) (hx_dep (hx_al (cols (sol s.toNatClampNeg)) ax u v) b) = hc_if (hx_in s 6 && (hx_in ax 3 && (hx_in u 12 && hx_in v 12))) (-1) (hy_dep bi s.toNatClampNeg ax b u v) := hl_if (fun h => by
  simp only [Bool.and_eq_true] at h
  exact hq_dep (R.R (hl_in6 h.1)) (hl_in6 h.1) (hl_in3 h.2.1) b u v)
theorem hl_stroke (R : hsRel cols sol oth out num o d t bi wh w S) (s ax b u v x : Int32) : hc_if (hx_in s 6 && (hx_in ax 3 && hx_spl u v x)) (-1) (hx_sb (hx_al (cols (sol s.toNatClampNeg)) ax ((u - 1) + x) (v - x)) (hx_al (cols (sol s.toNatClampNeg)) ax u v) b) = hc_if (hx_in s 6 && (hx_in ax 3 && hy_sp u v x)) (-1) (hy_st bi s.toNatClampNeg ax b u v x) := by
  have e : hx_spl u v x = hy_sp u v x := by unfold hx_spl hy_sp; rw [hx_pl13, hx_pl13]
  rw [e]
  refine hl_if (fun h => ?_)
  simp only [Bool.and_eq_true] at h
  have q := hq_st (R.R (hl_in6 h.1)) (hl_in6 h.1) (hl_in3 h.2.1) b u v
  by_cases hx : x = 0
  · subst hx
    rw [Int32.add_zero, Int32.sub_zero]
    exact q.1
  · have h3 := h.2.2
    unfold hy_sp at h3
    rw [if_neg hx, Bool.and_eq_true, decide_eq_true_eq] at h3
    obtain ⟨rfl, -⟩ := h3
    rw [Int32.sub_add_cancel]
    exact q.2
theorem hl_strokes (R : hsRel cols sol oth out num o d t bi wh w S) (s ax b w0 : Int32) (F : Nat → Int32) : hc_if (hx_in s 6 && (hx_in ax 3 && (decide (w0 = 1) || decide (w0 = 2)))) (-1) (hc_sk (hx_fill (hx_vw (cols (sol s.toNatClampNeg)) ax) F) b w0) = hc_if (hx_in s 6 && (hx_in ax 3 && (!(decide (w0 < 1)) && decide (w0 ≤ 2)))) (-1) (hy_sk bi s.toNatClampNeg ax b w0) := by
  have e : (decide (w0 = 1) || decide (w0 = 2)) = (!(decide (w0 < 1)) && decide (w0 ≤ 2)) := by
    rw [Bool.eq_iff_iff, Bool.or_eq_true, Bool.and_eq_true, decide_eq_true_eq, decide_eq_true_eq, decide_eq_true_eq, Bool.not_eq_true', decide_eq_false_iff_not]
    constructor
    · rintro (rfl | rfl) <;> decide
    · rintro ⟨q1, q2⟩
      have q3 : ¬ w0 < 0 := fun r => q1 (Int32.lt_of_lt_of_le r (by decide))
      obtain ⟨j, hj, rfl⟩ := nI_of2 (M := 2) (n := 2) rfl q3 q2
      rcases j with _ | _ | _ | j
      · exact absurd (by decide) q1
      · exact Or.inl rfl
      · exact Or.inr rfl
      · omega
  rw [← e]
  refine hl_if (fun h => ?_)
  simp only [Bool.and_eq_true] at h
  refine hq_sk (R.R (hl_in6 h.1)) (hl_in6 h.1) (hl_in3 h.2.1) F b w0 (fun q => ?_)
  subst q
  exact absurd h.2.2 (by decide)
end HlEq
