def hf_un (f : Nat → Int32) : Nat := hn_sum (fun i => hb_pc 12 (f i)) 144
theorem hn_sum_lt {f g : Nat → Nat} {n j : Nat} (hj : j < n) (h1 : ∀ i, i < n → g i ≤ f i) (h2 : g j + 1 ≤ f j) : hn_sum g n + 1 ≤ hn_sum f n := by
  induction n with
  | zero => omega
  | succ n ih =>
    show hn_sum g n + g n + 1 ≤ hn_sum f n + f n
    by_cases q : j = n
    · subst q
      have : hn_sum g j ≤ hn_sum f j := by
        clear ih hj h2
        induction j with
        | zero => exact Nat.le_refl _
        | succ j ih =>
          show hn_sum g j + g j ≤ hn_sum f j + f j
          have := ih (fun i hi => h1 i (by omega))
          have := h1 j (by omega)
          omega
      omega
    · have := ih (by omega) (fun i hi => h1 i (by omega))
      have := h1 n (by omega)
      omega
theorem hz_enc {col m : Nat} (hc : col < 144) (hm : m < 4096) : ((nI col) <<< ((12 : Int32) &&& 31)) ||| nI m = nI (4096 * col + m) := by
  apply b_ext
  intro i hi
  rw [b_or, show (12 : Int32) = nI 12 from rfl, b_shl 12 (by decide) _ hi, hb_nI hi, hb_nI hi]
  have e := Nat.testBit_two_pow_mul_add col (i := 12) (b := m) hm i
  rw [show 2 ^ 12 * col + m = 4096 * col + m from rfl] at e
  rw [e]
  by_cases q : i < 12
  · rw [if_pos q, decide_eq_false (by omega), Bool.false_and, Bool.false_or]
  · rw [if_neg q, decide_eq_true (by omega), Bool.true_and, hb_nI (by omega), Nat.testBit_lt_two_pow (x := m) (Nat.lt_of_lt_of_le hm (Nat.pow_le_pow_right (n := 2) (by decide) (show 12 ≤ i by omega))), Bool.or_false]
theorem hz_dec {col m : Nat} (hc : col < 144) (hm : m < 4096) : nI (4096 * col + m) >>> ((12 : Int32) &&& 31) = nI col ∧ nI (4096 * col + m) &&& 4095 = nI m := by
  constructor
  · rw [pk_shrN (by omega) _ 12 (by decide), show (4096 * col + m) / 2 ^ 12 = col by omega]
  · rw [pk_andN (by omega) 12 (by decide), show (4096 * col + m) % 2 ^ 12 = m by omega]
abbrev hfI (A0 St : hzS) (i : Nat) (E : hzS) (X : HF) : Prop :=
  (∀ x y z, hz_L X.1 x y z → A0 x y z) ∧
  (∀ x y z, A0 x y z → ¬ hz_L X.1 x y z → hzR A0 St x y z) ∧
  (∀ q, q < X.2.2 → ∃ col m : Nat, (col < 144 ∧ m < 4096) ∧ X.2.1 q = nI (4096 * col + m) ∧ ∀ z, m.testBit z = true → A0 (col / 12) (col % 12) z ∧ ¬ hz_L X.1 (col / 12) (col % 12) z) ∧
  (∀ x y z, A0 x y z → ¬ hz_L X.1 x y z → (∃ q m : Nat, (i ≤ q ∧ q < X.2.2 ∧ m < 4096) ∧ X.2.1 q = nI (4096 * (x * 12 + y) + m) ∧ m.testBit z = true) ∨ (∀ x' y' z', hz_adj x y z x' y' z' → A0 x' y' z' → ¬ hz_L X.1 x' y' z') ∨ E x y z) ∧
  (X.2.2 + hf_un X.1 ≤ 1728 ∧ ∀ j, j < 144 → hb_lo 12 (X.1 j))
theorem hf_take_I {A0 St E : hzS} {i : Nat} {X : HF} (hA0 : ∀ x y z, A0 x y z → x < 12 ∧ y < 12 ∧ z < 12) (h : hfI A0 St i E X) (hi : i ≤ X.2.2) {x y b : Int32} (hr : ∀ p q z : Nat, x = nI p → y = nI q → bt b z = true → A0 p q z → hzR A0 St p q z) : hfI A0 St i E (hf_take x y b X) ∧ i ≤ (hf_take x y b X).2.2 ∧ (∀ p q r, hz_L (hf_take x y b X).1 p q r → hz_L X.1 p q r) ∧ (∀ p q z : Nat, x = nI p → y = nI q → bt b z = true → ¬ hz_L (hf_take x y b X).1 p q z) := by
  by_cases hin : hx_in x 12 = true ∧ hx_in y 12 = true
  · obtain ⟨h1, h2⟩ := hin
    obtain ⟨a, ha, rfl⟩ := hx_in_nat (n := 12) (by decide) h1
    obtain ⟨c, hc, rfl⟩ := hx_in_nat (n := 12) (by decide) h2
    have e : nI a * 12 + nI c = nI (a * 12 + c) := by
      show nI a * nI 12 + nI c = _
      rw [pk_mul, nI_add]
    have inj : ∀ p q z : Nat, nI a = nI p → nI c = nI q → hz_L X.1 p q z → p = a ∧ q = c := by
      intro p q z q1 q2 ql
      have := ql.1
      exact ⟨((nI_eq (by omega) (by omega)).mp q1).symm, ((nI_eq (by omega) (by omega)).mp q2).symm⟩
    unfold hf_take
    rw [if_pos h1, if_pos h2, e, nI_clamp (by omega)]
    by_cases hg : X.1 (a * 12 + c) &&& b = 0
    · rw [if_pos hg]
      refine ⟨h, hi, fun _ _ _ q => q, fun p q z q1 q2 q3 ql => ?_⟩
      obtain ⟨rfl, rfl⟩ := inj p q z q1 q2 ql
      have := congrArg (fun v => bt v z) hg
      simp only [b_and, b_0] at this
      rw [ql.2, q3] at this
      cases this
    · rw [if_neg hg]
      have lo := h.2.2.2.2.2 (a * 12 + c) (by omega)
      have glo : hb_lo 12 (X.1 (a * 12 + c) &&& b) := hb_lo_and lo
      have hex : ∃ z, z < 12 ∧ bt (X.1 (a * 12 + c)) z = true ∧ bt b z = true := by
        apply Classical.byContradiction
        intro q
        apply hg
        apply b_ext
        intro z hz
        rw [b_and, b_0]
        by_cases z12 : z < 12
        · cases e1 : bt (X.1 (a * 12 + c)) z with
          | false => rfl
          | true =>
            cases e2 : bt b z with
            | false => rfl
            | true => exact absurd ⟨z, z12, e1, e2⟩ q
        · rw [lo z (by omega) hz, Bool.false_and]
      have U : ∀ p q z, hz_L (upd X.1 (a * 12 + c) (X.1 (a * 12 + c) ^^^ (X.1 (a * 12 + c) &&& b))) p q z ↔ hz_L X.1 p q z ∧ ¬ (p = a ∧ q = c ∧ bt b z = true) := by
        intro p q z
        unfold hz_L
        constructor
        · rintro ⟨g1, g2⟩
          by_cases k : p * 12 + q = a * 12 + c
          · rw [k, pk_us, b_xor, b_and] at g2
            rw [k]
            revert g2
            cases bt (X.1 (a * 12 + c)) z <;> cases bt b z <;> simp <;> omega
          · rw [pk_un k] at g2
            exact ⟨⟨g1, g2⟩, fun t => k (by omega)⟩
        · rintro ⟨⟨g1, g2⟩, g3⟩
          refine ⟨g1, ?_⟩
          by_cases k : p * 12 + q = a * 12 + c
          · rw [k, pk_us, b_xor, b_and]
            rw [k] at g2
            have : bt b z = false := Bool.eq_false_iff.mpr (fun t => g3 ⟨by omega, by omega, t⟩)
            rw [g2, this]; rfl
          · rw [pk_un k]; exact g2
      have un1 : hf_un (upd X.1 (a * 12 + c) (X.1 (a * 12 + c) ^^^ (X.1 (a * 12 + c) &&& b))) + 1 ≤ hf_un X.1 := by
        have ble : ∀ p q : Bool, hb_n (p ^^ (p && q)) ≤ hb_n p := by intro p q; cases p <;> cases q <;> decide
        have hle : hb_pc 12 (X.1 (a * 12 + c) ^^^ (X.1 (a * 12 + c) &&& b)) + 1 ≤ hb_pc 12 (X.1 (a * 12 + c)) := by
          obtain ⟨z, hz, e1, e2⟩ := hex
          refine hn_sum_lt hz (fun k _ => by rw [b_xor, b_and]; exact ble _ _) ?_
          rw [b_xor, b_and, e1, e2]; decide
        refine hn_sum_lt (j := a * 12 + c) (by omega) (fun k _ => ?_) (by rw [pk_us]; exact hle)
        by_cases k1 : k = a * 12 + c
        · subst k1; rw [pk_us]; omega
        · rw [pk_un k1]; exact Nat.le_refl _
      have room := h.2.2.2.2.1
      rw [if_pos (show X.2.2 < 1728 by omega)]
      obtain ⟨m, hm, em⟩ := hb_of 12 (by decide) glo
      have tb : ∀ z, z < 32 → (m.testBit z = true ↔ bt (X.1 (a * 12 + c)) z = true ∧ bt b z = true) := fun z hz => by rw [← hb_nI hz, ← em, b_and, Bool.and_eq_true]
      have hm' : m < 4096 := hm
      have mlt : ∀ z, m.testBit z = true → z < 12 := by
        intro z hz
        apply Nat.lt_of_not_le
        intro q
        rw [Nat.testBit_lt_two_pow (Nat.lt_of_lt_of_le hm (Nat.pow_le_pow_right (by decide) q))] at hz
        cases hz
      rw [em, hz_enc (by omega) hm', ← em]
      refine ⟨⟨fun p q z hl => h.1 p q z ((U p q z).mp hl).1, fun p q z qa hl => ?_, fun q hq => ?_, fun p q z qa hl => ?_, ?_, fun j hj => ?_⟩, Nat.le_succ_of_le hi, fun p q r hl => ((U p q r).mp hl).1, fun p q z q1 q2 q3 ql => ?_⟩
      · by_cases k : hz_L X.1 p q z
        · have : p = a ∧ q = c ∧ bt b z = true := Classical.byContradiction fun t => hl ((U p q z).mpr ⟨k, t⟩)
          exact hr p q z (by rw [this.1]) (by rw [this.2.1]) this.2.2 qa
        · exact h.2.1 p q z qa k
      · by_cases k : q = X.2.2
        · subst k
          refine ⟨a * 12 + c, m, ⟨by omega, hm'⟩, pk_us, fun z hz => ?_⟩
          have z12 := mlt z hz
          have t := (tb z (by omega)).mp hz
          rw [show (a * 12 + c) / 12 = a by omega, show (a * 12 + c) % 12 = c by omega]
          exact ⟨h.1 a c z ⟨⟨ha, hc, z12⟩, t.1⟩, fun g => ((U a c z).mp g).2 ⟨rfl, rfl, t.2⟩⟩
        · obtain ⟨col, m2, g1, g2, g3⟩ := h.2.2.1 q (by simp only at hq; omega)
          exact ⟨col, m2, g1, (pk_un k).trans g2, fun z hz => ⟨(g3 z hz).1, fun g => (g3 z hz).2 ((U _ _ _).mp g).1⟩⟩
      · by_cases k : hz_L X.1 p q z
        · have t : p = a ∧ q = c ∧ bt b z = true := Classical.byContradiction fun t => hl ((U p q z).mpr ⟨k, t⟩)
          refine Or.inl ⟨X.2.2, m, ⟨hi, Nat.lt_succ_self _, hm'⟩, ?_, ?_⟩
          · rw [t.1, t.2.1]; exact pk_us
          · have z12 := k.1.2.2
            rw [tb z (by omega), ← t.1, ← t.2.1]
            exact ⟨k.2, t.2.2⟩
        · rcases h.2.2.2.1 p q z qa k with ⟨q1, m2, g1, g2, g3⟩ | g | g
          · exact Or.inl ⟨q1, m2, ⟨g1.1, by simp only; omega, g1.2.2⟩, (pk_un (by omega)).trans g2, g3⟩
          · exact Or.inr (Or.inl fun p' q' r' ad qa' hl' => g p' q' r' ad qa' ((U _ _ _).mp hl').1)
          · exact Or.inr (Or.inr g)
      · simp only; omega
      · by_cases k : j = a * 12 + c
        · subst k; simp only; rw [pk_us]; exact hb_lo_xor lo glo
        · simp only; rw [pk_un k]; exact h.2.2.2.2.2 j hj
      · obtain ⟨t1, t2⟩ := inj p q z q1 q2 ((U p q z).mp ql).1
        exact ((U p q z).mp ql).2 ⟨t1, t2, q3⟩
  · have ho : hf_take x y b X = X := by
      unfold hf_take
      by_cases h1 : hx_in x 12 = true
      · rw [if_pos h1, if_neg (fun h2 => hin ⟨h1, h2⟩)]
      · rw [if_neg h1]
    rw [ho]
    refine ⟨h, hi, fun _ _ _ q => q, fun p q z q1 q2 _ ql => ?_⟩
    apply hin
    rw [q1, q2]
    exact ⟨hx_in_lt (n := 12) ql.1.1 (by decide), hx_in_lt (n := 12) ql.1.2.1 (by decide)⟩
