def hz_pl (ax : Int32) (u v c i z : Nat) : Prop := if ax = 0 then i = c * 12 + u ∧ z = v else if ax = 1 then i = u * 12 + c ∧ z = v else i = u * 12 + v ∧ z = c
theorem hz_D_hb {bi b : Nat → Int32} {M : Nat → Nat → Prop} (h : hz_D bi b M) {s : Nat} (hs : s < 6) (ax o u v : Int32) : hy_hb b s ax o u v = hy_hb bi s ax o u v := by
  unfold hy_hb
  rw [hz_D_has h hs, hz_D_has h hs, hz_D_has h hs]
theorem hz_D_swp {bi b : Nat → Int32} {M : Nat → Nat → Prop} (h : hz_D bi b M) {ax : Int32} (hax : ax = 0 ∨ ax = 1 ∨ ax = 2) {u v c : Nat} (hu : u < 12) (hv : v < 12) (hc : c < 12) : hz_D bi (hy_swp ax b u v c) (fun i z => M i z ∨ hz_pl ax u v c i z) := by
  unfold hy_swp hz_pl
  rcases hax with rfl | rfl | rfl
  · simp only [if_pos, if_neg (show ¬ (0 : Int32) = 1 by decide), if_neg (show ¬ (0 : Int32) = 2 by decide)]
    exact hz_D_put h hc hu hv
  · simp only [if_pos, if_neg (show ¬ (1 : Int32) = 0 by decide), if_neg (show ¬ (1 : Int32) = 2 by decide)]
    exact hz_D_put h hu hc hv
  · simp only [if_pos, if_neg (show ¬ (2 : Int32) = 0 by decide), if_neg (show ¬ (2 : Int32) = 1 by decide)]
    exact hz_D_put h hu hv hc
theorem hz_D_swl {bi : Nat → Int32} {s : Nat} (hs : s < 6) {ax w : Int32} (hax : ax = 0 ∨ ax = 1 ∨ ax = 2) {u v : Nat} (hu : u < 12) (hv : v < 12) : ∀ d c b (M : Nat → Nat → Prop), hz_D bi b M → c + d ≤ 12 → hz_D bi (hy_swl s ax w u v d c b) (fun i z => M i z ∨ (hy_hb bi s ax w (nI u) (nI v) = true ∧ ∃ q, c ≤ q ∧ q < c + d ∧ hz_pl ax u v q i z)) := by
  intro d
  induction d with
  | zero => intro c b M h hc; exact hz_D_mono h (fun i z _ _ => ⟨Or.inl, fun q => q.elim id (fun ⟨_, q, h1, h2, _⟩ => by omega)⟩)
  | succ d ih =>
    intro c b M h hc
    show hz_D bi (if hy_hb b s ax w (nI u) (nI v) = true then hy_swl s ax w u v d (c + 1) (hy_swp ax b u v c) else b) _
    rw [hz_D_hb h hs]
    by_cases hb : hy_hb bi s ax w (nI u) (nI v) = true
    · rw [if_pos hb]
      refine hz_D_mono (ih (c + 1) _ _ (hz_D_swp h hax hu hv (by omega)) (by omega)) (fun i z _ _ => ⟨?_, ?_⟩)
      · rintro ((h1 | h1) | ⟨-, q, h1, h2, h3⟩)
        · exact Or.inl h1
        · exact Or.inr ⟨hb, c, by omega, by omega, h1⟩
        · exact Or.inr ⟨hb, q, by omega, by omega, h3⟩
      · rintro (h1 | ⟨-, q, h1, h2, h3⟩)
        · exact Or.inl (Or.inl h1)
        · by_cases hq : q = c
          · subst hq; exact Or.inl (Or.inr h3)
          · exact Or.inr ⟨hb, q, by omega, by omega, h3⟩
    · rw [if_neg hb]
      exact hz_D_mono h (fun i z _ _ => ⟨Or.inl, fun q => q.elim id (fun r => absurd r.1 hb)⟩)
theorem hz_D_sweep {bi : Nat → Int32} {s : Nat} (hs : s < 6) {ax w : Int32} (hax : ax = 0 ∨ ax = 1 ∨ ax = 2) {c d : Nat} (hc : c + d ≤ 12) : hz_D bi (hx_it (fun u F => hx_it (fun v F => hy_swl s ax w u v d c F) 12 F) 12 (hy_clr bi)) (fun i z => ∃ u v q, u < 12 ∧ v < 12 ∧ hy_hb bi s ax w (nI u) (nI v) = true ∧ c ≤ q ∧ q < c + d ∧ hz_pl ax u v q i z) := by
  have inner : ∀ (u : Nat), u < 12 → ∀ b (M : Nat → Nat → Prop), hz_D bi b M → ∀ n, n ≤ 12 → hz_D bi (hx_it (fun v F => hy_swl s ax w u v d c F) n b) (fun i z => M i z ∨ ∃ v q, v < n ∧ hy_hb bi s ax w (nI u) (nI v) = true ∧ c ≤ q ∧ q < c + d ∧ hz_pl ax u v q i z) := by
    intro u hu b M h n
    induction n with
    | zero => intro _; exact hz_D_mono h (fun i z _ _ => ⟨Or.inl, fun q => q.elim id (fun ⟨_, _, h1, _⟩ => by omega)⟩)
    | succ n ih =>
      intro hn
      refine hz_D_mono (hz_D_swl hs hax hu (show n < 12 by omega) d c _ _ (ih (by omega)) hc) (fun i z _ _ => ⟨?_, ?_⟩)
      · rintro ((h1 | ⟨v, q, h1, h2⟩) | ⟨h1, q, h2⟩)
        · exact Or.inl h1
        · exact Or.inr ⟨v, q, by omega, h2⟩
        · exact Or.inr ⟨n, q, by omega, h1, h2⟩
      · rintro (h1 | ⟨v, q, h1, h2, h3⟩)
        · exact Or.inl (Or.inl h1)
        · by_cases hv : v = n
          · subst hv; exact Or.inr ⟨h2, q, h3⟩
          · exact Or.inl (Or.inr ⟨v, q, by omega, h2, h3⟩)
  have outer : ∀ n, n ≤ 12 → hz_D bi (hx_it (fun u F => hx_it (fun v F => hy_swl s ax w u v d c F) 12 F) n (hy_clr bi)) (fun i z => ∃ u v q, u < n ∧ v < 12 ∧ hy_hb bi s ax w (nI u) (nI v) = true ∧ c ≤ q ∧ q < c + d ∧ hz_pl ax u v q i z) := by
    intro n
    induction n with
    | zero => intro _; exact hz_D_mono (hz_D_clr bi) (fun i z _ _ => ⟨False.elim, fun ⟨_, _, _, h1, _⟩ => by omega⟩)
    | succ n ih =>
      intro hn
      refine hz_D_mono (inner n (by omega) _ _ (ih (by omega)) 12 (Nat.le_refl _)) (fun i z _ _ => ⟨?_, ?_⟩)
      · rintro (⟨u, v, q, h1, h2⟩ | ⟨v, q, h1, h2⟩)
        · exact ⟨u, v, q, by omega, h2⟩
        · exact ⟨n, v, q, by omega, h1, h2⟩
      · rintro ⟨u, v, q, h1, h2, h3⟩
        by_cases hu : u = n
        · subst hu; exact Or.inr ⟨v, q, h2, h3⟩
        · exact Or.inl ⟨u, v, q, by omega, h2, h3⟩
  exact outer 12 (Nat.le_refl _)
theorem hq_sweep {f bi : Nat → Int32} {s : Nat} (h : hs_R f bi s) (hs : s < 6) {ax : Int32} (hax : ax = 0 ∨ ax = 1 ∨ ax = 2) {w a0 b0 : Nat} (hw : w < 12) (hab : a0 ≤ b0) (hb0 : b0 < 12) (F : Nat → Int32) {b : Nat → Int32} (hb : b = hx_it (fun u F => hx_it (fun v F => hy_swl s ax (nI w) u v (b0 + 1 - a0) a0 F) 12 F) 12 (hy_clr bi)) : (∀ j, j < 864 ∨ 1008 ≤ j → b j = bi j) ∧ ∀ i, i < 144 → hx_fill (hx_sw f ax (nI w) (nI a0) (nI b0)) F i = b (864 + i) ∧ hb_lo 12 (hx_fill (hx_sw f ax (nI w) (nI a0) (nI b0)) F i) := by
  subst hb
  have D0 := hz_D_sweep (bi := bi) (s := s) hs (ax := ax) (w := nI w) hax (c := a0) (d := b0 + 1 - a0) (by omega)
  have D := hz_D_mono (N := fun i z => z < 12 ∧ bt (hx_sw f ax (nI w) (nI a0) (nI b0) (i / 12) (i % 12)) z = true) D0 ?_
  · refine ⟨D.1, hz_D_eq D (fun i hi z hz => ?_) (fun i z _ _ q => q.1)⟩
    rw [hx_fill_at _ _ hi]
    refine ⟨fun q => ⟨?_, q⟩, fun q => q.2⟩
    apply Nat.lt_of_not_le
    intro h12
    revert q
    unfold hx_sw
    rcases hax with rfl | rfl | rfl
    · rw [if_pos rfl]
      split
      · rw [b_0]; decide
      · rw [hz_col_lo h _ _ z h12 hz]; decide
    · rw [if_neg (by decide), if_pos rfl]
      split
      · rw [b_0]; decide
      · rw [hz_col_lo h _ _ z h12 hz]; decide
    · rw [if_neg (by decide), if_neg (by decide)]
      split
      · rw [hx_span_all a0 (by omega) b0 hb0 hab z hz, decide_eq_true_eq]; omega
      · rw [b_0]; decide
  · intro i z hi hz
    have cmp : ∀ x : Nat, x < 12 → ((nI x < nI a0 ∨ nI b0 < nI x) ↔ (x < a0 ∨ b0 < x)) := fun x hx => by rw [nI_ltI (by omega) (by omega), nI_ltI (by omega) (by omega)]
    unfold hx_sw hz_pl
    simp only [hz_hb h hs]
    rcases hax with rfl | rfl | rfl
    · simp only [if_pos, hz_h0', nI_toInt (show w < 2 ^ 31 by omega)]
      constructor
      · rintro ⟨u, v, q, hu, hv, h1, h2, h3, h4, h5⟩
        refine ⟨by omega, ?_⟩
        rw [nI_toInt (by omega), nI_toInt (by omega)] at h1
        rw [if_neg (fun r => by rw [cmp _ (by omega)] at r; omega), hz_col h _ _ hz, nI_toInt (by omega), nI_toInt (by omega), show i % 12 = u by omega, h5]
        exact h1
      · rintro ⟨h12, h1⟩
        by_cases hc : nI (i / 12) < nI a0 ∨ nI b0 < nI (i / 12)
        · rw [if_pos hc, b_0] at h1; cases h1
        · rw [if_neg hc, hz_col h _ _ hz, nI_toInt (by omega), nI_toInt (by omega)] at h1
          rw [cmp _ (by omega)] at hc
          refine ⟨i % 12, z, i / 12, by omega, h12, ?_, by omega, by omega, by omega, rfl⟩
          rw [nI_toInt (by omega), nI_toInt (by omega)]
          exact h1
    · simp only [if_pos, if_neg (show ¬ (1 : Int32) = 0 by decide), hz_h1', nI_toInt (show w < 2 ^ 31 by omega)]
      constructor
      · rintro ⟨u, v, q, hu, hv, h1, h2, h3, h4, h5⟩
        refine ⟨by omega, ?_⟩
        rw [nI_toInt (by omega), nI_toInt (by omega)] at h1
        rw [if_neg (fun r => by rw [cmp _ (by omega)] at r; omega), hz_col h _ _ hz, nI_toInt (by omega), nI_toInt (by omega), show i / 12 = u by omega, h5]
        exact h1
      · rintro ⟨h12, h1⟩
        by_cases hc : nI (i % 12) < nI a0 ∨ nI b0 < nI (i % 12)
        · rw [if_pos hc, b_0] at h1; cases h1
        · rw [if_neg hc, hz_col h _ _ hz, nI_toInt (by omega), nI_toInt (by omega)] at h1
          rw [cmp _ (by omega)] at hc
          refine ⟨i / 12, z, i % 12, by omega, h12, ?_, by omega, by omega, by omega, rfl⟩
          rw [nI_toInt (by omega), nI_toInt (by omega)]
          exact h1
    · simp only [if_neg (show ¬ (2 : Int32) = 0 by decide), if_neg (show ¬ (2 : Int32) = 1 by decide), hz_h2', nI_toInt (show w < 2 ^ 31 by omega), hb_test _ (show w < 32 by omega)]
      constructor
      · rintro ⟨u, v, q, hu, hv, h1, h2, h3, h4, h5⟩
        refine ⟨by omega, ?_⟩
        rw [nI_toInt (by omega), nI_toInt (by omega)] at h1
        rw [if_pos (by rw [hz_col h _ _ (by omega), nI_toInt (by omega), nI_toInt (by omega), show i / 12 = u by omega, show i % 12 = v by omega]; exact h1), hx_span_all a0 (by omega) b0 hb0 hab z hz, decide_eq_true_eq]
        omega
      · rintro ⟨h12, h1⟩
        by_cases hc : bt (hx_col f (nI (i / 12)) (nI (i % 12))) w = true
        · rw [if_pos hc, hx_span_all a0 (by omega) b0 hb0 hab z hz, decide_eq_true_eq] at h1
          rw [hz_col h _ _ (by omega)] at hc
          exact ⟨i / 12, i % 12, z, by omega, by omega, hc, by omega, by omega, by omega, rfl⟩
        · rw [if_neg hc, b_0] at h1; cases h1
