theorem hy_cpy_at (c : Nat → Int32) {a b : Nat} (h : a + 144 ≤ b ∨ b + 144 ≤ a) (j : Nat) : hy_cpy c a b j = if b ≤ j ∧ j < b + 144 then c (a + (j - b)) else c j := by
  have key : ∀ n, n ≤ 144 → ∀ j, hx_it (fun k c => upd c (b + k) (c (a + k))) n c j = if b ≤ j ∧ j < b + n then c (a + (j - b)) else c j := by
    intro n
    induction n with
    | zero => intro _ j; rw [if_neg (by omega)]; rfl
    | succ n ih =>
      intro hn j
      show upd (hx_it (fun k c => upd c (b + k) (c (a + k))) n c) (b + n) (hx_it (fun k c => upd c (b + k) (c (a + k))) n c (a + n)) j = _
      by_cases hj : j = b + n
      · subst hj
        rw [pk_us, ih (by omega), if_neg (by omega), if_pos (by omega), Nat.add_sub_cancel_left]
      · rw [pk_un hj, ih (by omega)]
        by_cases h1 : b ≤ j ∧ j < b + n
        · rw [if_pos h1, if_pos (by omega)]
        · rw [if_neg h1, if_neg (by omega)]
  exact key 144 (Nat.le_refl _) j
theorem hy_mv (bi wh : Nat → Int32) : ∀ n, n ≤ 11 → (∀ x, (hx_it (fun k (Z : (Nat → Int32) × (Nat → Int32)) => (hy_cpy (hy_cpy Z.1 (1008 + (144 * (k + 1))) (1008 + (144 * k))) (2736 + (144 * (k + 1))) (2736 + (144 * k)), upd Z.2 k (Z.2 (k + 1)))) n (bi, wh)).1 x = if (1008 ≤ x ∧ x < 1008 + 144 * n) ∨ (2736 ≤ x ∧ x < 2736 + 144 * n) then bi (x + 144) else bi x) ∧ (∀ j, (hx_it (fun k (Z : (Nat → Int32) × (Nat → Int32)) => (hy_cpy (hy_cpy Z.1 (1008 + (144 * (k + 1))) (1008 + (144 * k))) (2736 + (144 * (k + 1))) (2736 + (144 * k)), upd Z.2 k (Z.2 (k + 1)))) n (bi, wh)).2 j = if j < n then wh (j + 1) else wh j) := by
  intro n
  induction n with
  | zero => intro _; exact ⟨fun x => by rw [if_neg (by omega)]; rfl, fun j => by rw [if_neg (by omega)]; rfl⟩
  | succ n ih =>
    intro hn
    obtain ⟨h1, h2⟩ := ih (by omega)
    rw [hx_it_s]
    generalize hx_it (fun k (Z : (Nat → Int32) × (Nat → Int32)) => (hy_cpy (hy_cpy Z.1 (1008 + (144 * (k + 1))) (1008 + (144 * k))) (2736 + (144 * (k + 1))) (2736 + (144 * k)), upd Z.2 k (Z.2 (k + 1)))) n (bi, wh) = Z at h1 h2
    refine ⟨fun x => ?_, fun j => ?_⟩
    · show hy_cpy (hy_cpy Z.1 (1008 + (144 * (n + 1))) (1008 + (144 * n))) (2736 + (144 * (n + 1))) (2736 + (144 * n)) x = _
      rw [hy_cpy_at _ (by omega)]
      by_cases q1 : 2736 + 144 * n ≤ x ∧ x < 2736 + 144 * n + 144
      · rw [if_pos q1, hy_cpy_at _ (by omega), if_neg (by omega), h1, if_neg (by omega), if_pos (by omega), show 2736 + 144 * (n + 1) + (x - (2736 + 144 * n)) = x + 144 by omega]
      · rw [if_neg q1, hy_cpy_at _ (by omega)]
        by_cases q2 : 1008 + 144 * n ≤ x ∧ x < 1008 + 144 * n + 144
        · rw [if_pos q2, h1, if_neg (by omega), if_pos (by omega), show 1008 + 144 * (n + 1) + (x - (1008 + 144 * n)) = x + 144 by omega]
        · rw [if_neg q2, h1]
          by_cases q3 : (1008 ≤ x ∧ x < 1008 + 144 * n) ∨ (2736 ≤ x ∧ x < 2736 + 144 * n)
          · rw [if_pos q3, if_pos (by omega)]
          · rw [if_neg q3, if_neg (by omega)]
    · show upd Z.2 n (Z.2 (n + 1)) j = _
      by_cases q : j = n
      · subst q; rw [pk_us, h2, if_neg (by omega), if_pos (by omega)]
      · rw [pk_un q, h2]
        by_cases q2 : j < n
        · rw [if_pos q2, if_pos (by omega)]
        · rw [if_neg q2, if_neg (by omega)]
def hq_e (d : Nat) : Nat := if d = 12 then 1 else 0
theorem hy_stp_pre (bi wh : Nat → Int32) {d : Nat} (hd : d ≤ 12) : ∃ Z : (Nat → Int32) × (Nat → Int32), (if d = 12 then hx_it (fun k (Z : (Nat → Int32) × (Nat → Int32)) => (hy_cpy (hy_cpy Z.1 (1008 + (144 * (k + 1))) (1008 + (144 * k))) (2736 + (144 * (k + 1))) (2736 + (144 * k)), upd Z.2 k (Z.2 (k + 1)))) 11 (bi, wh) else (bi, wh)) = Z ∧ (∀ j, j < 1008 → Z.1 j = bi j) ∧ (∀ j i, j < hq_d d → i < 144 → Z.1 (1008 + 144 * j + i) = bi (1008 + 144 * (j + hq_e d) + i) ∧ Z.1 (2736 + 144 * j + i) = bi (2736 + 144 * (j + hq_e d) + i)) ∧ (∀ j, j < hq_d d → Z.2 j = wh (j + hq_e d)) := by
  refine ⟨_, rfl, ?_⟩
  unfold hq_d hq_e
  by_cases h12 : d = 12
  · rw [if_pos h12, if_pos h12, if_pos h12]
    obtain ⟨h1, h2⟩ := hy_mv bi wh 11 (Nat.le_refl _)
    refine ⟨fun j hj => by rw [h1, if_neg (by omega)], fun j i hj hi => ⟨?_, ?_⟩, fun j hj => by rw [h2, if_pos hj]⟩
    · rw [h1, if_pos (by omega), show 1008 + 144 * j + i + 144 = 1008 + 144 * (j + 1) + i by omega]
    · rw [h1, if_pos (by omega), show 2736 + 144 * j + i + 144 = 2736 + 144 * (j + 1) + i by omega]
  · rw [if_neg h12, if_neg h12, if_neg h12]
    exact ⟨fun _ _ => rfl, fun _ _ _ _ => ⟨rfl, rfl⟩, fun _ _ => rfl⟩
theorem hy_stp_at (bi wh : Nat → Int32) {d s : Nat} (hd : d ≤ 12) (hs : s < 6) : (∀ s' i, s' < 6 → i < 144 → (hy_stp bi wh d s).1 (144 * s' + i) = if s' = s then bi (864 + i) else bi (144 * s' + i)) ∧ (∀ j i, j < hq_d d → i < 144 → (hy_stp bi wh d s).1 (1008 + 144 * j + i) = bi (1008 + 144 * (j + hq_e d) + i) ∧ (hy_stp bi wh d s).1 (2736 + 144 * j + i) = bi (2736 + 144 * (j + hq_e d) + i)) ∧ (∀ i, i < 144 → (hy_stp bi wh d s).1 (1008 + 144 * hq_d d + i) = bi (144 * s + i) ∧ (hy_stp bi wh d s).1 (2736 + 144 * hq_d d + i) = bi (864 + i)) ∧ (∀ j, j < hq_d d → (hy_stp bi wh d s).2 j = wh (j + hq_e d)) ∧ (hy_stp bi wh d s).2 (hq_d d) = nI s := by
  obtain ⟨Z, hZ, h1, h2, h3⟩ := hy_stp_pre bi wh hd
  have hq : hq_d d ≤ 11 := by unfold hq_d; split <;> omega
  unfold hy_stp
  rw [hZ]
  dsimp only
  have E : ∀ x, hy_cpy (hy_cpy (hy_cpy Z.1 (144 * s) (1008 + (144 * hq_d d))) 864 (2736 + (144 * hq_d d))) 864 (144 * s) x = if 144 * s ≤ x ∧ x < 144 * s + 144 then Z.1 (864 + (x - 144 * s)) else if 2736 + 144 * hq_d d ≤ x ∧ x < 2736 + 144 * hq_d d + 144 then Z.1 (864 + (x - (2736 + 144 * hq_d d))) else if 1008 + 144 * hq_d d ≤ x ∧ x < 1008 + 144 * hq_d d + 144 then Z.1 (144 * s + (x - (1008 + 144 * hq_d d))) else Z.1 x := by
    intro x
    rw [hy_cpy_at _ (by omega)]
    by_cases q1 : 144 * s ≤ x ∧ x < 144 * s + 144
    · rw [if_pos q1, if_pos q1, hy_cpy_at _ (by omega), if_neg (by omega), hy_cpy_at _ (by omega), if_neg (by omega)]
    · rw [if_neg q1, if_neg q1, hy_cpy_at _ (by omega)]
      by_cases q2 : 2736 + 144 * hq_d d ≤ x ∧ x < 2736 + 144 * hq_d d + 144
      · rw [if_pos q2, if_pos q2, hy_cpy_at _ (by omega), if_neg (by omega)]
      · rw [if_neg q2, if_neg q2, hy_cpy_at _ (by omega)]
  refine ⟨fun s' i hs' hi => ?_, fun j i hj hi => ⟨?_, ?_⟩, fun i hi => ⟨?_, ?_⟩, fun j hj => ?_, pk_us⟩
  · rw [E]
    by_cases q : s' = s
    · subst q
      rw [if_pos (by omega), if_pos rfl, h1 _ (by omega), Nat.add_sub_cancel_left]
    · rw [if_neg (by omega), if_neg (by omega), if_neg (by omega), if_neg q, h1 _ (by omega)]
  · rw [E, if_neg (by omega), if_neg (by omega), if_neg (by omega), (h2 j i hj hi).1]
  · rw [E, if_neg (by omega), if_neg (by omega), if_neg (by omega), (h2 j i hj hi).2]
  · rw [E, if_neg (by omega), if_neg (by omega), if_pos (by omega), h1 _ (by omega), Nat.add_sub_cancel_left]
  · rw [E, if_neg (by omega), if_pos (by omega), h1 _ (by omega), Nat.add_sub_cancel_left]
  · show upd Z.2 (hq_d d) (nI s) j = _
    rw [pk_un (by omega), h3 j hj]
abbrev hsInj (sol oth : Nat → Nat) (out : Nat) : Prop :=
  (∀ s, s < 6 → sol s < 19) ∧ (∀ j, j < 12 → oth j < 19) ∧ (out < 19) ∧ (∀ s t, s < 6 → t < 6 → sol s = sol t → s = t) ∧ (∀ j k, j < 12 → k < 12 → oth j = oth k → j = k) ∧ (∀ s j, s < 6 → j < 12 → sol s ≠ oth j) ∧ (∀ s, s < 6 → sol s ≠ out) ∧ (∀ j, j < 12 → oth j ≠ out)
theorem hsInj.s1 {sol oth : Nat → Nat} {out : Nat} (h : hsInj sol oth out) : ∀ s, s < 6 → sol s < 19 := h.1
theorem hsInj.o1 {sol oth : Nat → Nat} {out : Nat} (h : hsInj sol oth out) : ∀ j, j < 12 → oth j < 19 := h.2.1
theorem hsInj.u1 {sol oth : Nat → Nat} {out : Nat} (h : hsInj sol oth out) : out < 19 := h.2.2.1
theorem hsInj.ss {sol oth : Nat → Nat} {out : Nat} (h : hsInj sol oth out) : ∀ s t, s < 6 → t < 6 → sol s = sol t → s = t := h.2.2.2.1
theorem hsInj.oo {sol oth : Nat → Nat} {out : Nat} (h : hsInj sol oth out) : ∀ j k, j < 12 → k < 12 → oth j = oth k → j = k := h.2.2.2.2.1
theorem hsInj.so {sol oth : Nat → Nat} {out : Nat} (h : hsInj sol oth out) : ∀ s j, s < 6 → j < 12 → sol s ≠ oth j := h.2.2.2.2.2.1
theorem hsInj.su {sol oth : Nat → Nat} {out : Nat} (h : hsInj sol oth out) : ∀ s, s < 6 → sol s ≠ out := h.2.2.2.2.2.2.1
theorem hsInj.ou {sol oth : Nat → Nat} {out : Nat} (h : hsInj sol oth out) : ∀ j, j < 12 → oth j ≠ out := h.2.2.2.2.2.2.2
theorem hsInj.step {sol oth : Nat → Nat} {out : Nat} (h : hsInj sol oth out) {i p : Nat} (hi : i < 6) (hp : p < 12) : hsInj (va_up sol i out) (va_up oth p (sol i)) (oth p) := by
  refine ⟨fun s hs => ?_, fun j hj => ?_, h.o1 p hp, fun s t hs ht => ?_, fun j k hj hk => ?_, fun s j hs hj => ?_, fun s hs => ?_, fun j hj => ?_⟩
  · unfold va_up; split; exact h.u1; exact h.s1 s hs
  · unfold va_up; split; exact h.s1 i hi; exact h.o1 j hj
  · unfold va_up
    split
    · split
      · intro _; omega
      · intro q; exact absurd q.symm (h.su t ht)
    · split
      · intro q; exact absurd q (h.su s hs)
      · exact h.ss s t hs ht
  · unfold va_up
    split
    · split
      · intro _; omega
      · intro q; exact absurd q (h.so i k hi hk)
    · split
      · intro q; exact absurd q.symm (h.so i j hi hj)
      · exact h.oo j k hj hk
  · unfold va_up
    split
    · split
      · exact fun q => h.su i hi q.symm
      · exact fun q => h.ou j hj q.symm
    · split
      · rename_i n _; exact fun q => n (h.ss s i hs hi q)
      · exact h.so s j hs hj
  · unfold va_up
    split
    · exact fun q => h.ou p hp q.symm
    · exact h.so s p hs hp
  · unfold va_up
    split
    · exact h.so i p hi hp
    · rename_i n; exact fun q => n (h.oo j p hj hp q)
theorem hsInj.swap {sol oth : Nat → Nat} {out : Nat} (h : hsInj sol oth out) {i p : Nat} (hi : i < 6) (hp : p < 12) : hsInj (va_up sol i (oth p)) (va_up oth p (sol i)) out := by
  refine ⟨fun s hs => ?_, fun j hj => ?_, h.u1, fun s t hs ht => ?_, fun j k hj hk => ?_, fun s j hs hj => ?_, fun s hs => ?_, fun j hj => ?_⟩
  · unfold va_up; split; exact h.o1 p hp; exact h.s1 s hs
  · unfold va_up; split; exact h.s1 i hi; exact h.o1 j hj
  · unfold va_up
    split
    · split
      · intro _; omega
      · intro q; exact absurd q.symm (h.so t p ht hp)
    · split
      · intro q; exact absurd q (h.so s p hs hp)
      · exact h.ss s t hs ht
  · unfold va_up
    split
    · split
      · intro _; omega
      · intro q; exact absurd q (h.so i k hi hk)
    · split
      · intro q; exact absurd q.symm (h.so i j hi hj)
      · exact h.oo j k hj hk
  · unfold va_up
    split
    · split
      · exact fun q => h.so i p hi hp q.symm
      · rename_i n; exact fun q => n (h.oo j p hj hp q.symm)
    · split
      · rename_i n _; exact fun q => n (h.ss s i hs hi q)
      · exact h.so s j hs hj
  · unfold va_up
    split
    · exact h.ou p hp
    · exact h.su s hs
  · unfold va_up
    split
    · exact h.su i hi
    · exact h.ou j hj
abbrev hsRel (cols : Nat → Nat → Int32) (sol oth : Nat → Nat) (out : Nat) (num : Nat → Int32) (o d t : Nat) (bi wh : Nat → Int32) (w : Nat → Nat) (S : Nat → Nat → Nat → Int32) : Prop :=
  (o < 12) ∧ (d + t ≤ 12) ∧ (hsInj sol oth out) ∧ (∀ j, j < d + t → w j < 6 ∧ num ((o + j) % 12) = nI (w j) ∧ wh j = nI (w j)) ∧ (∀ s i, s < 6 → i < 144 → cols (sol s) i = S d s i ∧ bi (144 * s + i) = S d s i) ∧ (∀ k s i, k ≤ d + t → s < 6 → i < 144 → hb_lo 12 (S k s i)) ∧ (∀ j i, j < d + t → i < 144 → bi (1008 + 144 * j + i) = S j (w j) i ∧ bi (2736 + 144 * j + i) = S (j + 1) (w j) i) ∧ (∀ j s i, j < d + t → s < 6 → i < 144 → s ≠ w j → S (j + 1) s i = S j s i) ∧ (∀ j i, j < d → i < 144 → cols (oth ((o + j) % 12)) i = S j (w j) i) ∧ (∀ j i, d ≤ j → j < d + t → i < 144 → cols (oth ((o + j) % 12)) i = S (j + 1) (w j) i)
theorem hsRel.ho {cols : Nat → Nat → Int32} {sol oth : Nat → Nat} {out : Nat} {num : Nat → Int32} {o d t : Nat} {bi wh : Nat → Int32} {w : Nat → Nat} {S : Nat → Nat → Nat → Int32} (h : hsRel cols sol oth out num o d t bi wh w S) : o < 12 := h.1
theorem hsRel.hdt {cols : Nat → Nat → Int32} {sol oth : Nat → Nat} {out : Nat} {num : Nat → Int32} {o d t : Nat} {bi wh : Nat → Int32} {w : Nat → Nat} {S : Nat → Nat → Nat → Int32} (h : hsRel cols sol oth out num o d t bi wh w S) : d + t ≤ 12 := h.2.1
theorem hsRel.inj {cols : Nat → Nat → Int32} {sol oth : Nat → Nat} {out : Nat} {num : Nat → Int32} {o d t : Nat} {bi wh : Nat → Int32} {w : Nat → Nat} {S : Nat → Nat → Nat → Int32} (h : hsRel cols sol oth out num o d t bi wh w S) : hsInj sol oth out := h.2.2.1
theorem hsRel.hw {cols : Nat → Nat → Int32} {sol oth : Nat → Nat} {out : Nat} {num : Nat → Int32} {o d t : Nat} {bi wh : Nat → Int32} {w : Nat → Nat} {S : Nat → Nat → Nat → Int32} (h : hsRel cols sol oth out num o d t bi wh w S) : ∀ j, j < d + t → w j < 6 ∧ num ((o + j) % 12) = nI (w j) ∧ wh j = nI (w j) := h.2.2.2.1
theorem hsRel.cur {cols : Nat → Nat → Int32} {sol oth : Nat → Nat} {out : Nat} {num : Nat → Int32} {o d t : Nat} {bi wh : Nat → Int32} {w : Nat → Nat} {S : Nat → Nat → Nat → Int32} (h : hsRel cols sol oth out num o d t bi wh w S) : ∀ s i, s < 6 → i < 144 → cols (sol s) i = S d s i ∧ bi (144 * s + i) = S d s i := h.2.2.2.2.1
theorem hsRel.lo {cols : Nat → Nat → Int32} {sol oth : Nat → Nat} {out : Nat} {num : Nat → Int32} {o d t : Nat} {bi wh : Nat → Int32} {w : Nat → Nat} {S : Nat → Nat → Nat → Int32} (h : hsRel cols sol oth out num o d t bi wh w S) : ∀ k s i, k ≤ d + t → s < 6 → i < 144 → hb_lo 12 (S k s i) := h.2.2.2.2.2.1
theorem hsRel.bef {cols : Nat → Nat → Int32} {sol oth : Nat → Nat} {out : Nat} {num : Nat → Int32} {o d t : Nat} {bi wh : Nat → Int32} {w : Nat → Nat} {S : Nat → Nat → Nat → Int32} (h : hsRel cols sol oth out num o d t bi wh w S) : ∀ j i, j < d + t → i < 144 → bi (1008 + 144 * j + i) = S j (w j) i ∧ bi (2736 + 144 * j + i) = S (j + 1) (w j) i := h.2.2.2.2.2.2.1
theorem hsRel.oth1 {cols : Nat → Nat → Int32} {sol oth : Nat → Nat} {out : Nat} {num : Nat → Int32} {o d t : Nat} {bi wh : Nat → Int32} {w : Nat → Nat} {S : Nat → Nat → Nat → Int32} (h : hsRel cols sol oth out num o d t bi wh w S) : ∀ j s i, j < d + t → s < 6 → i < 144 → s ≠ w j → S (j + 1) s i = S j s i := h.2.2.2.2.2.2.2.1
theorem hsRel.dn {cols : Nat → Nat → Int32} {sol oth : Nat → Nat} {out : Nat} {num : Nat → Int32} {o d t : Nat} {bi wh : Nat → Int32} {w : Nat → Nat} {S : Nat → Nat → Nat → Int32} (h : hsRel cols sol oth out num o d t bi wh w S) : ∀ j i, j < d → i < 144 → cols (oth ((o + j) % 12)) i = S j (w j) i := h.2.2.2.2.2.2.2.2.1
theorem hsRel.un {cols : Nat → Nat → Int32} {sol oth : Nat → Nat} {out : Nat} {num : Nat → Int32} {o d t : Nat} {bi wh : Nat → Int32} {w : Nat → Nat} {S : Nat → Nat → Nat → Int32} (h : hsRel cols sol oth out num o d t bi wh w S) : ∀ j i, d ≤ j → j < d + t → i < 144 → cols (oth ((o + j) % 12)) i = S (j + 1) (w j) i := h.2.2.2.2.2.2.2.2.2
theorem hsRel.R {cols : Nat → Nat → Int32} {sol oth : Nat → Nat} {out : Nat} {num : Nat → Int32} {o d t : Nat} {bi wh : Nat → Int32} {w : Nat → Nat} {S : Nat → Nat → Nat → Int32} (h : hsRel cols sol oth out num o d t bi wh w S) {s : Nat} (hs : s < 6) : hs_R (cols (sol s)) bi s := fun i hi => by
  obtain ⟨e1, e2⟩ := h.cur s i hs hi
  rw [e1, e2]
  exact ⟨rfl, h.lo d s i (by omega) hs hi⟩
theorem hq_pe {o d : Nat} (hd : d ≤ 12) (j : Nat) : (hq_o o d + j) % 12 = (o + (j + hq_e d)) % 12 ∧ hq_d d + hq_e d = d ∧ hq_d d ≤ 11 := by
  unfold hq_o hq_e hq_d
  by_cases h : d = 12
  · rw [if_pos h, if_pos h, if_pos h]; omega
  · rw [if_neg h, if_neg h, if_neg h]; omega
theorem hsRel.step {cols : Nat → Nat → Int32} {sol oth : Nat → Nat} {out : Nat} {num : Nat → Int32} {o d t : Nat} {bi wh : Nat → Int32} {w : Nat → Nat} {S : Nat → Nat → Nat → Int32} (h : hsRel cols sol oth out num o d t bi wh w S) {s : Nat} (hs : s < 6) {F b : Nat → Int32} (hoff : ∀ j, j < 864 ∨ 1008 ≤ j → b j = bi j) (hF : ∀ i, i < 144 → F i = b (864 + i) ∧ hb_lo 12 (F i)) : ∃ w' S', hsRel (va_up cols out F) (va_up sol s out) (va_up oth (hq_p o d) (sol s)) (oth (hq_p o d)) (upd num (hq_p o d) (nI s)) (hq_o o d) (hq_d d + 1) 0 (hy_stp b wh d s).1 (hy_stp b wh d s).2 w' S' := by
  have hd : d ≤ 12 := by have := h.hdt; omega
  obtain ⟨a1, a2, a3, a4, a5⟩ := hy_stp_at b wh hd hs
  have P := fun j => (hq_pe (o := o) hd j).1
  obtain ⟨-, e1, e2⟩ := hq_pe (o := o) hd 0
  have hp : hq_p o d < 12 := hq_p_lt o d
  have hpe : hq_p o d = (o + d) % 12 := by unfold hq_p; rw [P, e1]
  have hne : ∀ j, j < hq_d d → (hq_o o d + j) % 12 ≠ hq_p o d := by
    intro j hj
    rw [P, hpe]
    omega
  refine ⟨fun j => if j = hq_d d then s else w (j + hq_e d), fun k => if k ≤ hq_d d then S (k + hq_e d) else fun s' i => if s' = s then F i else S d s' i, ?_⟩
  refine ⟨?_, by omega, h.inj.step hs hp, fun j hj => ?_, fun s' i hs' hi => ?_, fun k s' i hk hs' hi => ?_, fun j i hj hi => ?_, fun j s' i hj hs' hi hn => ?_, fun j i hj hi => ?_, fun j i h1 h2 hi => by omega⟩
  all_goals (try dsimp only at *)
  · unfold hq_o; have := h.ho; split <;> omega
  · by_cases q : j = hq_d d
    · subst q
      rw [if_pos rfl, show (hq_o o d + hq_d d) % 12 = hq_p o d from rfl, pk_us, a5]
      exact ⟨hs, rfl, rfl⟩
    · obtain ⟨w1, w2, w3⟩ := h.hw (j + hq_e d) (by omega)
      rw [if_neg q, pk_un (hne j (by omega)), a4 j (by omega), P]
      exact ⟨w1, w2, w3⟩
  · rw [if_neg (by omega)]
    by_cases q : s' = s
    · subst q
      rw [if_pos rfl, a1 s' i hs' hi, if_pos rfl, va_up_self, va_up_self]
      exact ⟨rfl, (hF i hi).1.symm⟩
    · rw [if_neg q, a1 s' i hs' hi, if_neg q, va_up_ne _ _ q, va_up_ne _ _ (h.inj.su s' hs'), hoff _ (by omega)]
      exact h.cur s' i hs' hi
  · by_cases q : k ≤ hq_d d
    · simp only [if_pos q]
      exact h.lo _ s' i (by omega) hs' hi
    · simp only [if_neg q]
      split
      · exact (hF i hi).2
      · exact h.lo _ s' i (by omega) hs' hi
  · by_cases q : j = hq_d d
    · subst q
      obtain ⟨b1, b2⟩ := a3 i hi
      rw [if_pos rfl, if_pos (Nat.le_refl _), if_neg (by omega), if_pos rfl, b1, b2, hoff _ (by omega), e1]
      exact ⟨(h.cur s i hs hi).2, (hF i hi).1.symm⟩
    · obtain ⟨b1, b2⟩ := a2 j i (by omega) hi
      rw [if_neg q, if_pos (by omega), if_pos (by omega), b1, b2, hoff _ (by omega), hoff _ (by omega)]
      have := h.bef (j + hq_e d) i (by omega) hi
      rw [show j + 1 + hq_e d = j + hq_e d + 1 by omega]
      exact this
  · by_cases q : j = hq_d d
    · subst q
      rw [if_pos rfl] at hn
      rw [if_neg (by omega), if_pos (Nat.le_refl _), if_neg hn, e1]
    · rw [if_neg q] at hn
      rw [if_pos (by omega), if_pos (by omega), show j + 1 + hq_e d = j + hq_e d + 1 by omega]
      exact h.oth1 (j + hq_e d) s' i (by omega) hs' hi hn
  · by_cases q : j = hq_d d
    · subst q
      rw [show (hq_o o d + hq_d d) % 12 = hq_p o d from rfl, va_up_self, va_up_ne _ _ (h.inj.su s hs), if_pos rfl, if_pos (Nat.le_refl _), e1]
      exact (h.cur s i hs hi).1
    · rw [va_up_ne _ _ (hne j (by omega)), va_up_ne _ _ (h.inj.ou _ (Nat.mod_lt _ (by decide))), if_neg q, if_pos (by omega), P]
      exact h.dn (j + hq_e d) i (by omega) hi
theorem hsRel.cnt {b wh : Nat → Int32} {d s : Nat} (hd : d ≤ 12) (hs : s < 6) {F : Nat → Int32} (hF : ∀ i, i < 144 → F i = b (864 + i) ∧ hb_lo 12 (F i)) : hx_cnt F = hy_cnt (hy_stp b wh d s).1 s := by
  obtain ⟨a1, -⟩ := hy_stp_at b wh hd hs
  exact hq_cnt (fun i hi => by rw [a1 s i hs hi, if_pos rfl]; exact hF i hi)
theorem hsRel.undo {cols : Nat → Nat → Int32} {sol oth : Nat → Nat} {out : Nat} {num : Nat → Int32} {o d t : Nat} {bi wh : Nat → Int32} {w : Nat → Nat} {S : Nat → Nat → Nat → Int32} (h : hsRel cols sol oth out num o (d + 1) t bi wh w S) : hsRel cols (va_up sol (w d) (oth ((o + d) % 12))) (va_up oth ((o + d) % 12) (sol (w d))) out num o d (t + 1) (hy_cpy bi (1008 + (144 * d)) (144 * w d)) wh w S := by
  have hdt := h.hdt
  obtain ⟨w1, w2, w3⟩ := h.hw d (by omega)
  have hp : (o + d) % 12 < 12 := Nat.mod_lt _ (by decide)
  have C : ∀ x, hy_cpy bi (1008 + (144 * d)) (144 * w d) x = if 144 * w d ≤ x ∧ x < 144 * w d + 144 then bi (1008 + 144 * d + (x - 144 * w d)) else bi x := hy_cpy_at bi (by omega)
  have hm : ∀ j, j < 12 → j ≠ d → (o + j) % 12 ≠ (o + d) % 12 := by intro j hj hn; omega
  refine ⟨h.ho, by omega, h.inj.swap w1 hp, fun j hj => h.hw j (by omega), fun s i hs hi => ?_, fun k s i hk hs hi => h.lo k s i (by omega) hs hi, fun j i hj hi => ?_, fun j s i hj hs hi hn => h.oth1 j s i (by omega) hs hi hn, fun j i hj hi => ?_, fun j i h1 h2 hi => ?_⟩
  · rw [C]
    by_cases q : s = w d
    · subst q
      rw [va_up_self, if_pos (by omega), Nat.add_sub_cancel_left, (h.bef d i (by omega) hi).1, h.dn d i (by omega) hi]
      exact ⟨rfl, rfl⟩
    · rw [va_up_ne _ _ q, if_neg (by omega), ← h.oth1 d s i (by omega) hs hi q]
      exact h.cur s i hs hi
  · rw [C, C, if_neg (by omega), if_neg (by omega)]
    exact h.bef j i (by omega) hi
  · rw [va_up_ne _ _ (hm j (by omega) (by omega))]
    exact h.dn j i (by omega) hi
  · by_cases q : j = d
    · subst q
      rw [va_up_self]
      exact (h.cur (w j) i w1 hi).1
    · rw [va_up_ne _ _ (hm j (by omega) q)]
      exact h.un j i (by omega) (by omega) hi
theorem hsRel.redo {cols : Nat → Nat → Int32} {sol oth : Nat → Nat} {out : Nat} {num : Nat → Int32} {o d t : Nat} {bi wh : Nat → Int32} {w : Nat → Nat} {S : Nat → Nat → Nat → Int32} (h : hsRel cols sol oth out num o d (t + 1) bi wh w S) : hsRel cols (va_up sol (w d) (oth ((o + d) % 12))) (va_up oth ((o + d) % 12) (sol (w d))) out num o (d + 1) t (hy_cpy bi (2736 + (144 * d)) (144 * w d)) wh w S := by
  have hdt := h.hdt
  obtain ⟨w1, w2, w3⟩ := h.hw d (by omega)
  have hp : (o + d) % 12 < 12 := Nat.mod_lt _ (by decide)
  have C : ∀ x, hy_cpy bi (2736 + (144 * d)) (144 * w d) x = if 144 * w d ≤ x ∧ x < 144 * w d + 144 then bi (2736 + 144 * d + (x - 144 * w d)) else bi x := hy_cpy_at bi (by omega)
  have hm : ∀ j, j < 12 → j ≠ d → (o + j) % 12 ≠ (o + d) % 12 := by intro j hj hn; omega
  refine ⟨h.ho, by omega, h.inj.swap w1 hp, fun j hj => h.hw j (by omega), fun s i hs hi => ?_, fun k s i hk hs hi => h.lo k s i (by omega) hs hi, fun j i hj hi => ?_, fun j s i hj hs hi hn => h.oth1 j s i (by omega) hs hi hn, fun j i hj hi => ?_, fun j i h1 h2 hi => ?_⟩
  · rw [C]
    by_cases q : s = w d
    · subst q
      rw [va_up_self, if_pos (by omega), Nat.add_sub_cancel_left, (h.bef d i (by omega) hi).2, h.un d i (by omega) (by omega) hi]
      exact ⟨rfl, rfl⟩
    · rw [va_up_ne _ _ q, if_neg (by omega), h.oth1 d s i (by omega) hs hi q]
      exact h.cur s i hs hi
  · rw [C, C, if_neg (by omega), if_neg (by omega)]
    exact h.bef j i (by omega) hi
  · by_cases q : j = d
    · subst q
      rw [va_up_self]
      exact (h.cur (w j) i w1 hi).1
    · rw [va_up_ne _ _ (hm j (by omega) q)]
      exact h.dn j i (by omega) hi
  · rw [va_up_ne _ _ (hm j (by omega) (by omega))]
    exact h.un j i (by omega) (by omega) hi
