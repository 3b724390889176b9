abbrev hzS : Type := Nat → Nat → Nat → Prop
def hz_adj (x y z x' y' z' : Nat) : Prop := (y = y' ∧ z = z' ∧ (x' = x + 1 ∨ x = x' + 1)) ∨ (x = x' ∧ z = z' ∧ (y' = y + 1 ∨ y = y' + 1)) ∨ (x = x' ∧ y = y' ∧ (z' = z + 1 ∨ z = z' + 1))
theorem hz_adj_s {x y z x' y' z' : Nat} (h : hz_adj x y z x' y' z') : hz_adj x' y' z' x y z := by unfold hz_adj at h ⊢; omega
def hzR (A St : hzS) (x y z : Nat) : Prop := ∀ P : hzS, (∀ x y z, St x y z → A x y z → P x y z) → (∀ x y z x' y' z', P x y z → hz_adj x y z x' y' z' → A x' y' z' → P x' y' z') → P x y z
theorem hzR.base {A St : hzS} {x y z : Nat} (h : St x y z) (hA : A x y z) : hzR A St x y z := fun _ h1 _ => h1 x y z h hA
theorem hzR.step {A St : hzS} {x y z x' y' z' : Nat} (h : hzR A St x y z) (ha : hz_adj x y z x' y' z') (hA : A x' y' z') : hzR A St x' y' z' := fun P h1 h2 => h2 x y z x' y' z' (h P h1 h2) ha hA
theorem hzR.A {A St : hzS} {x y z : Nat} (h : hzR A St x y z) : A x y z := h A (fun _ _ _ _ q => q) (fun _ _ _ _ _ _ _ _ q => q)
theorem hzR.mono {A B S T : hzS} (hA : ∀ x y z, A x y z → B x y z) (hS : ∀ x y z, S x y z → T x y z) {x y z : Nat} (h : hzR A S x y z) : hzR B T x y z := h (hzR B T) (fun _ _ _ q1 q2 => .base (hS _ _ _ q1) (hA _ _ _ q2)) (fun _ _ _ _ _ _ q1 q2 q3 => .step q1 q2 (hA _ _ _ q3))
def hz_L (f : Nat → Int32) : hzS := fun x y z => (x < 12 ∧ y < 12 ∧ z < 12) ∧ bt (f (x * 12 + y)) z = true
def hz_A (bi : Nat → Int32) (s : Nat) (w : Int32) : hzS := fun x y z => (x < 12 ∧ y < 12 ∧ z < 12) ∧ hx_b (hy_has bi s (nI x) (nI y) (nI z)) = w
theorem hm_new_iff {bi : Nat → Int32} {s : Nat} {w : Int32} {Y : HF} {a b c : Nat} (ha : a < 12) (hb : b < 12) (hc : c < 12) : hm_new bi s w Y (nI a) (nI b) (nI c) = true ↔ hz_A bi s w a b c ∧ ¬ hz_L Y.1 a b c := by
  unfold hm_new hz_A hz_L
  have e : 12 * nI a + nI b = nI (a * 12 + b) := by
    show nI 12 * nI a + nI b = _
    rw [pk_mul, nI_add, Nat.mul_comm]
  rw [e, nI_clamp (by omega), hx_in_lt (n := 12) ha (by decide) |> (fun q : hx_in (nI a) 12 = true => q), hx_in_lt (n := 12) hb (by decide) |> (fun q : hx_in (nI b) 12 = true => q), hx_in_lt (n := 12) hc (by decide) |> (fun q : hx_in (nI c) 12 = true => q)]
  simp only [Bool.true_and, Bool.and_eq_true, decide_eq_true_eq, Bool.not_eq_true', decide_eq_false_iff_not, hb_test _ (show c < 32 by omega)]
  constructor
  · rintro ⟨h1, h2⟩; exact ⟨⟨⟨ha, hb, hc⟩, h1⟩, fun q => h2 q.2⟩
  · rintro ⟨h1, h2⟩; exact ⟨h1.2, fun q => h2 ⟨⟨ha, hb, hc⟩, q⟩⟩
theorem hm_see_out {bi : Nat → Int32} {s : Nat} {w x y z : Int32} {Y : HF} (h : hx_in x 12 = false ∨ hx_in y 12 = false ∨ hx_in z 12 = false) : hm_see bi s w x y z Y = Y := by
  apply hm_see_no
  unfold hm_new
  rcases h with h | h | h <;> rw [h] <;> simp
theorem hz_L_up {f : Nat → Int32} {a b c : Nat} (ha : a < 12) (hb : b < 12) (hc : c < 12) (x y z : Nat) : hz_L (upd f (a * 12 + b) (f (a * 12 + b) ||| ((1 : Int32) <<< (nI c &&& 31)))) x y z ↔ hz_L f x y z ∨ (x = a ∧ y = b ∧ z = c) := by
  unfold hz_L
  constructor
  · rintro ⟨h1, h2⟩
    by_cases q : x * 12 + y = a * 12 + b
    · rw [q, pk_us, b_or, hb_pow (by omega) (by omega), Bool.or_eq_true, decide_eq_true_eq] at h2
      rcases h2 with h2 | h2
      · exact Or.inl ⟨h1, by rw [q]; exact h2⟩
      · exact Or.inr (by omega)
    · rw [pk_un q] at h2
      exact Or.inl ⟨h1, h2⟩
  · rintro (⟨h1, h2⟩ | ⟨rfl, rfl, rfl⟩)
    · refine ⟨h1, ?_⟩
      by_cases q : x * 12 + y = a * 12 + b
      · rw [q, pk_us, b_or, ← q, h2, Bool.true_or]
      · rw [pk_un q]; exact h2
    · refine ⟨⟨ha, hb, hc⟩, ?_⟩
      rw [pk_us, b_or, hb_pow (by omega) (by omega), decide_eq_true rfl, Bool.or_true]
abbrev hmI (bi : Nat → Int32) (s : Nat) (w : Int32) (K St E : hzS) (Y : HF) : Prop :=
  (∀ x y z, K x y z → hz_L Y.1 x y z) ∧ (∀ x y z, hz_L Y.1 x y z → ¬ K x y z → hzR (hz_A bi s w) St x y z) ∧ (∀ j, j < Y.2.2 → ∃ x y z, Y.2.1 j = nI (144 * x + 12 * y + z) ∧ hz_L Y.1 x y z ∧ ¬ K x y z) ∧ (∀ x y z, hz_L Y.1 x y z → ¬ K x y z → (∃ j, j < Y.2.2 ∧ Y.2.1 j = nI (144 * x + 12 * y + z)) ∨ (∀ x' y' z', hz_adj x y z x' y' z' → hz_A bi s w x' y' z' → hz_L Y.1 x' y' z') ∨ E x y z)
theorem hmI.k1 {bi : Nat → Int32} {s : Nat} {w : Int32} {K St E : hzS} {Y : HF} (h : hmI bi s w K St E Y) : ∀ x y z, K x y z → hz_L Y.1 x y z := h.1
theorem hmI.k2 {bi : Nat → Int32} {s : Nat} {w : Int32} {K St E : hzS} {Y : HF} (h : hmI bi s w K St E Y) : ∀ x y z, hz_L Y.1 x y z → ¬ K x y z → hzR (hz_A bi s w) St x y z := h.2.1
theorem hmI.k3 {bi : Nat → Int32} {s : Nat} {w : Int32} {K St E : hzS} {Y : HF} (h : hmI bi s w K St E Y) : ∀ j, j < Y.2.2 → ∃ x y z, Y.2.1 j = nI (144 * x + 12 * y + z) ∧ hz_L Y.1 x y z ∧ ¬ K x y z := h.2.2.1
theorem hmI.k4 {bi : Nat → Int32} {s : Nat} {w : Int32} {K St E : hzS} {Y : HF} (h : hmI bi s w K St E Y) : ∀ x y z, hz_L Y.1 x y z → ¬ K x y z → (∃ j, j < Y.2.2 ∧ Y.2.1 j = nI (144 * x + 12 * y + z)) ∨ (∀ x' y' z', hz_adj x y z x' y' z' → hz_A bi s w x' y' z' → hz_L Y.1 x' y' z') ∨ E x y z := h.2.2.2
def hz_bd (x y z : Nat) : Prop := (x = 0 ∨ x = 11) ∨ (y = 0 ∨ y = 11) ∨ (z = 0 ∨ z = 11)
abbrev hmB (K E : hzS) (Y : HF) (b : Bool) : Prop :=
  (b = true → ∃ x y z, hz_bd x y z ∧ hz_L Y.1 x y z ∧ ¬ K x y z) ∧ (∀ x y z, hz_bd x y z → hz_L Y.1 x y z → ¬ K x y z → (∃ j, j < Y.2.2 ∧ Y.2.1 j = nI (144 * x + 12 * y + z)) ∨ b = true)
theorem hmB.b1 {K E : hzS} {Y : HF} {b : Bool} (h : hmB K E Y b) : b = true → ∃ x y z, hz_bd x y z ∧ hz_L Y.1 x y z ∧ ¬ K x y z := h.1
theorem hmB.b2 {K E : hzS} {Y : HF} {b : Bool} (h : hmB K E Y b) : ∀ x y z, hz_bd x y z → hz_L Y.1 x y z → ¬ K x y z → (∃ j, j < Y.2.2 ∧ Y.2.1 j = nI (144 * x + 12 * y + z)) ∨ b = true := h.2
theorem hm_see_I {bi : Nat → Int32} {s : Nat} {w : Int32} {K St E : hzS} {Y : HF} {bo : Bool} (h : hmI bi s w K St E Y) (hB : hmB K E Y bo) {x y z : Int32} (hr : ∀ a b c : Nat, x = nI a → y = nI b → z = nI c → hz_A bi s w a b c → hzR (hz_A bi s w) St a b c) : hmI bi s w K St E (hm_see bi s w x y z Y) ∧ hmB K E (hm_see bi s w x y z Y) bo ∧ (∀ p q r, hz_L Y.1 p q r → hz_L (hm_see bi s w x y z Y).1 p q r) ∧ (∀ a b c : Nat, x = nI a → y = nI b → z = nI c → hz_A bi s w a b c → hz_L (hm_see bi s w x y z Y).1 a b c) := by
  by_cases hin : hx_in x 12 = true ∧ hx_in y 12 = true ∧ hx_in z 12 = true
  · obtain ⟨h1, h2, h3⟩ := hin
    obtain ⟨a, ha, rfl⟩ := hx_in_nat (n := 12) (by decide) h1
    obtain ⟨b, hb, rfl⟩ := hx_in_nat (n := 12) (by decide) h2
    obtain ⟨c, hc, rfl⟩ := hx_in_nat (n := 12) (by decide) h3
    have inj : ∀ a' b' c' : Nat, nI a = nI a' → nI b = nI b' → nI c = nI c' → hz_A bi s w a' b' c' → a' = a ∧ b' = b ∧ c' = c := by
      intro a' b' c' q1 q2 q3 qa
      have := qa.1
      exact ⟨((nI_eq (by omega) (by omega)).mp q1).symm, ((nI_eq (by omega) (by omega)).mp q2).symm, ((nI_eq (by omega) (by omega)).mp q3).symm⟩
    cases hn : hm_new bi s w Y (nI a) (nI b) (nI c) with
    | false =>
      rw [hm_see_no hn]
      refine ⟨h, hB, fun _ _ _ q => q, fun a' b' c' q1 q2 q3 qa => ?_⟩
      obtain ⟨rfl, rfl, rfl⟩ := inj a' b' c' q1 q2 q3 qa
      rw [Bool.eq_false_iff, Ne, hm_new_iff ha hb hc] at hn
      exact Classical.byContradiction fun q => hn ⟨qa, q⟩
    | true =>
      obtain ⟨hA, hNL⟩ := (hm_new_iff ha hb hc).mp hn
      have e : 12 * nI a + nI b = nI (a * 12 + b) := by
        show nI 12 * nI a + nI b = _
        rw [pk_mul, nI_add, Nat.mul_comm]
      have e2 : ((144 * nI a) + (12 * nI b)) + nI c = nI (144 * a + 12 * b + c) := by
        show ((nI 144 * nI a) + (nI 12 * nI b)) + nI c = _
        rw [pk_mul, pk_mul, nI_add, nI_add]
      rw [hm_see_yes hn, e, nI_clamp (by omega), e2]
      have U := hz_L_up (f := Y.1) ha hb hc
      have nK : ¬ K a b c := fun q => hNL (h.k1 a b c q)
      have stk : ∀ p q r, (∃ j, j < Y.2.2 ∧ Y.2.1 j = nI (144 * p + 12 * q + r)) → ∃ j, j < Y.2.2 + 1 ∧ upd Y.2.1 Y.2.2 (nI (144 * a + 12 * b + c)) j = nI (144 * p + 12 * q + r) := by
        rintro p q r ⟨j, j1, j2⟩
        exact ⟨j, by omega, by rw [pk_un (by omega)]; exact j2⟩
      refine ⟨⟨fun p q r hk => (U p q r).mpr (Or.inl (h.k1 p q r hk)), fun p q r hl hk => ?_, fun j hj => ?_, fun p q r hl hk => ?_⟩, ⟨fun q => ?_, fun p q r hb' hl hk => ?_⟩, fun p q r hl => (U p q r).mpr (Or.inl hl), fun a' b' c' q1 q2 q3 qa => ?_⟩
      · rcases (U p q r).mp hl with hl | ⟨rfl, rfl, rfl⟩
        · exact h.k2 p q r hl hk
        · exact hr _ _ _ rfl rfl rfl hA
      · by_cases q : j = Y.2.2
        · subst q
          exact ⟨a, b, c, pk_us, (U a b c).mpr (Or.inr ⟨rfl, rfl, rfl⟩), nK⟩
        · obtain ⟨p, q', r, e1, e2, e3⟩ := h.k3 j (by simp only at hj; omega)
          exact ⟨p, q', r, by rw [← e1]; exact pk_un q, (U p q' r).mpr (Or.inl e2), e3⟩
      · rcases (U p q r).mp hl with hl | ⟨rfl, rfl, rfl⟩
        · rcases h.k4 p q r hl hk with g | g | g
          · exact Or.inl (stk p q r g)
          · exact Or.inr (Or.inl fun p' q' r' ad qa => (U p' q' r').mpr (Or.inl (g p' q' r' ad qa)))
          · exact Or.inr (Or.inr g)
        · exact Or.inl ⟨Y.2.2, Nat.lt_succ_self _, pk_us⟩
      · obtain ⟨p, q', r, g1, g2, g3⟩ := hB.b1 q
        exact ⟨p, q', r, g1, (U p q' r).mpr (Or.inl g2), g3⟩
      · rcases (U p q r).mp hl with hl | ⟨rfl, rfl, rfl⟩
        · rcases hB.b2 p q r hb' hl hk with g | g
          · exact Or.inl (stk p q r g)
          · exact Or.inr g
        · exact Or.inl ⟨Y.2.2, Nat.lt_succ_self _, pk_us⟩
      · obtain ⟨rfl, rfl, rfl⟩ := inj a' b' c' q1 q2 q3 qa
        exact (U _ _ _).mpr (Or.inr ⟨rfl, rfl, rfl⟩)
  · have ho : hx_in x 12 = false ∨ hx_in y 12 = false ∨ hx_in z 12 = false := by
      cases e1 : hx_in x 12 with
      | false => exact Or.inl rfl
      | true =>
        cases e2 : hx_in y 12 with
        | false => exact Or.inr (Or.inl rfl)
        | true =>
          cases e3 : hx_in z 12 with
          | false => exact Or.inr (Or.inr rfl)
          | true => exact absurd ⟨e1, e2, e3⟩ hin
    rw [hm_see_out ho]
    refine ⟨h, hB, fun _ _ _ q => q, fun a b c q1 q2 q3 qa => ?_⟩
    exfalso
    apply hin
    rw [q1, q2, q3]
    exact ⟨hx_in_lt (n := 12) qa.1.1 (by decide), hx_in_lt (n := 12) qa.1.2.1 (by decide), hx_in_lt (n := 12) qa.1.2.2 (by decide)⟩
theorem hm_one_I {bi : Nat → Int32} {s : Nat} {w : Int32} {K St : hzS} {Y : HF} {bo : Bool} {a b c : Nat} (ha : a < 12) (hb : b < 12) (hc : c < 12) (he : Y.2.1 Y.2.2 = nI (144 * a + 12 * b + c)) (h : hmI bi s w K St (fun x y z => x = a ∧ y = b ∧ z = c) Y) (hB : hmB K (fun x y z => x = a ∧ y = b ∧ z = c) Y bo) (hR : hzR (hz_A bi s w) St a b c) : hmI bi s w K St (fun _ _ _ => False) (hm_one bi s w Y) ∧ hmB K (fun _ _ _ => False) (hm_one bi s w Y) bo ∧ (∀ p q r, hz_L Y.1 p q r → hz_L (hm_one bi s w Y).1 p q r) := by
  have e1 : nI (144 * a + 12 * b + c) / 144 = nI a := by
    show nI _ / nI 144 = _
    rw [pk_div (by omega) (by decide) (by decide), show (144 * a + 12 * b + c) / 144 = a by omega]
  have e2 : nI (144 * a + 12 * b + c) / 12 - nI (144 * a + 12 * b + c) / 12 / 12 * 12 = nI b := by
    show nI _ / nI 12 - nI _ / nI 12 / nI 12 * nI 12 = _
    rw [pk_div (by omega) (by decide) (by decide), pk_rem (by omega) (by decide) (by decide), show (144 * a + 12 * b + c) / 12 % 12 = b by omega]
  have e3 : nI (144 * a + 12 * b + c) - nI (144 * a + 12 * b + c) / 12 * 12 = nI c := by
    show nI _ - nI _ / nI 12 * nI 12 = _
    rw [pk_rem (by omega) (by decide) (by decide), show (144 * a + 12 * b + c) % 12 = c by omega]
  have m1 : ∀ u v : Nat, u < 12 → v < 12 → nI u - 1 = nI v → u = v + 1 := by
    intro u v hu hv q
    have := congrArg Int32.toInt q
    rw [hz_dm u (by omega), nI_toInt (by omega)] at this
    omega
  have m2 : ∀ u v : Nat, u < 12 → v < 12 → nI u + 1 = nI v → v = u + 1 := by
    intro u v hu hv q
    rw [nI_1] at q
    exact ((nI_eq (by omega) (by omega)).mp q).symm
  have m0 : ∀ u v : Nat, u < 12 → v < 12 → nI u = nI v → u = v := fun u v hu hv q => (nI_eq (by omega) (by omega)).mp q
  unfold hm_one
  rw [he, e1, e2, e3]
  have s1 := hm_see_I h hB (x := nI a - 1) (y := nI b) (z := nI c) (fun a' b' c' q1 q2 q3 qa => hR.step (by have := m1 a a' ha qa.1.1 q1; have := m0 b b' hb qa.1.2.1 q2; have := m0 c c' hc qa.1.2.2 q3; unfold hz_adj; omega) qa)
  have s2 := hm_see_I s1.1 s1.2.1 (x := nI a + 1) (y := nI b) (z := nI c) (fun a' b' c' q1 q2 q3 qa => hR.step (by have := m2 a a' ha qa.1.1 q1; have := m0 b b' hb qa.1.2.1 q2; have := m0 c c' hc qa.1.2.2 q3; unfold hz_adj; omega) qa)
  have s3 := hm_see_I s2.1 s2.2.1 (x := nI a) (y := nI b - 1) (z := nI c) (fun a' b' c' q1 q2 q3 qa => hR.step (by have := m0 a a' ha qa.1.1 q1; have := m1 b b' hb qa.1.2.1 q2; have := m0 c c' hc qa.1.2.2 q3; unfold hz_adj; omega) qa)
  have s4 := hm_see_I s3.1 s3.2.1 (x := nI a) (y := nI b + 1) (z := nI c) (fun a' b' c' q1 q2 q3 qa => hR.step (by have := m0 a a' ha qa.1.1 q1; have := m2 b b' hb qa.1.2.1 q2; have := m0 c c' hc qa.1.2.2 q3; unfold hz_adj; omega) qa)
  have s5 := hm_see_I s4.1 s4.2.1 (x := nI a) (y := nI b) (z := nI c - 1) (fun a' b' c' q1 q2 q3 qa => hR.step (by have := m0 a a' ha qa.1.1 q1; have := m0 b b' hb qa.1.2.1 q2; have := m1 c c' hc qa.1.2.2 q3; unfold hz_adj; omega) qa)
  have s6 := hm_see_I s5.1 s5.2.1 (x := nI a) (y := nI b) (z := nI c + 1) (fun a' b' c' q1 q2 q3 qa => hR.step (by have := m0 a a' ha qa.1.1 q1; have := m0 b b' hb qa.1.2.1 q2; have := m2 c c' hc qa.1.2.2 q3; unfold hz_adj; omega) qa)
  refine ⟨⟨s6.1.k1, s6.1.k2, s6.1.k3, fun x y z hl hk => ?_⟩, ⟨s6.2.1.b1, s6.2.1.b2⟩, fun p q r hl => s6.2.2.1 _ _ _ (s5.2.2.1 _ _ _ (s4.2.2.1 _ _ _ (s3.2.2.1 _ _ _ (s2.2.2.1 _ _ _ (s1.2.2.1 _ _ _ hl)))))⟩
  rcases s6.1.k4 x y z hl hk with g | g | ⟨rfl, rfl, rfl⟩
  · exact Or.inl g
  · exact Or.inr (Or.inl g)
  · refine Or.inr (Or.inl fun x' y' z' ad qa => ?_)
    have hx' := qa.1
    have p1 : ∀ u v : Nat, u = v + 1 → nI u - 1 = nI v := by intro u v q; subst q; exact nI_pred v
    have p2 : ∀ u v : Nat, v = u + 1 → nI u + 1 = nI v := by intro u v q; subst q; exact nI_1 u
    rcases ad with ⟨q1, q2, q3 | q3⟩ | ⟨q1, q2, q3 | q3⟩ | ⟨q1, q2, q3 | q3⟩
    · subst q1 q2
      exact s6.2.2.1 _ _ _ (s5.2.2.1 _ _ _ (s4.2.2.1 _ _ _ (s3.2.2.1 _ _ _ (s2.2.2.2 x' y z (p2 _ _ q3) rfl rfl qa))))
    · subst q1 q2
      exact s6.2.2.1 _ _ _ (s5.2.2.1 _ _ _ (s4.2.2.1 _ _ _ (s3.2.2.1 _ _ _ (s2.2.2.1 _ _ _ (s1.2.2.2 x' y z (p1 _ _ q3) rfl rfl qa)))))
    · subst q1 q2
      exact s6.2.2.1 _ _ _ (s5.2.2.1 _ _ _ (s4.2.2.2 x y' z rfl (p2 _ _ q3) rfl qa))
    · subst q1 q2
      exact s6.2.2.1 _ _ _ (s5.2.2.1 _ _ _ (s4.2.2.1 _ _ _ (s3.2.2.2 x y' z rfl (p1 _ _ q3) rfl qa)))
    · subst q1 q2
      exact s6.2.2.2 x y z' rfl rfl (p2 _ _ q3) qa
    · subst q1 q2
      exact s6.2.2.1 _ _ _ (s5.2.2.2 x y z' rfl rfl (p1 _ _ q3) qa)
