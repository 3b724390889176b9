theorem hf_one_I {A0 St : hzS} {i : Nat} {X : HF} (hA0 : ∀ x y z, A0 x y z → x < 12 ∧ y < 12 ∧ z < 12) (h : hfI A0 St i (fun _ _ _ => False) X) (hi : i < X.2.2) : hfI A0 St (i + 1) (fun _ _ _ => False) (hf_one i X) ∧ i + 1 ≤ (hf_one i X).2.2 ∧ (∀ p q r, hz_L (hf_one i X).1 p q r → hz_L X.1 p q r) := by
  obtain ⟨col, m, ⟨hcol, hm⟩, he, hcell⟩ := h.2.2.1 i hi
  have ha : col / 12 < 12 := by omega
  have hc : col % 12 < 12 := by omega
  have hE : hfI A0 St (i + 1) (fun x y z => x = col / 12 ∧ y = col % 12 ∧ m.testBit z = true) X := by
    refine ⟨h.1, h.2.1, h.2.2.1, fun x y z q1 q2 => ?_, h.2.2.2.2⟩
    rcases h.2.2.2.1 x y z q1 q2 with ⟨q, m2, g1, g2, g3⟩ | g | g
    · by_cases k : q = i
      · subst k
        have r := hA0 x y z q1
        have e := (nI_eq (by omega) (by omega)).mp (g2.symm.trans he)
        have e2 : m2 = m := by omega
        subst e2
        exact Or.inr (Or.inr ⟨by omega, by omega, g3⟩)
      · exact Or.inl ⟨q, m2, ⟨by omega, g1.2⟩, g2, g3⟩
    · exact Or.inr (Or.inl g)
    · exact absurd g id
  have d1 : nI col / 12 = nI (col / 12) := by
    show nI _ / nI 12 = _
    rw [pk_div (by omega) (by decide) (by decide)]
  have d2 : nI col - nI (col / 12) * 12 = nI (col % 12) := by
    rw [← d1]
    show nI _ - nI _ / nI 12 * nI 12 = _
    rw [pk_rem (by omega) (by decide) (by decide)]
  have m1 : ∀ u v : Nat, u < 12 → v < 12 → nI u - 1 = nI v → u = v + 1 := by
    intro u v hu hv q
    have := congrArg Int32.toInt q
    rw [hz_dm u (by omega), nI_toInt (by omega)] at this
    omega
  have m2 : ∀ u v : Nat, u < 12 → v < 12 → nI u + 1 = nI v → v = u + 1 := by
    intro u v hu hv q
    rw [nI_1] at q
    exact ((nI_eq (by omega) (by omega)).mp q).symm
  have m0 : ∀ u v : Nat, u < 12 → v < 12 → nI u = nI v → u = v := fun u v hu hv q => (nI_eq (by omega) (by omega)).mp q
  have mb : ∀ z, z < 32 → bt (nI m) z = m.testBit z := fun z hz => hb_nI hz
  have mlt : ∀ z, m.testBit z = true → z < 12 := by
    intro z hz
    apply Nat.lt_of_not_le
    intro q
    rw [Nat.testBit_lt_two_pow (Nat.lt_of_lt_of_le (show m < 2 ^ 12 from hm) (Nat.pow_le_pow_right (by decide) q))] at hz
    cases hz
  have shb : ∀ z, z < 12 → (bt ((nI m <<< ((1 : Int32) &&& 31)) ||| (nI m >>> ((1 : Int32) &&& 31))) z = true ↔ (1 ≤ z ∧ m.testBit (z - 1) = true) ∨ m.testBit (z + 1) = true) := by
    intro z hz
    rw [b_or, b_shl1 _ (by omega), show nI m >>> ((1 : Int32) &&& 31) = nI m >>> (nI 1 &&& 31) from rfl, b_sshr 1 (by decide) _ (by omega), if_pos (by omega), mb _ (by omega), mb _ (by omega), Bool.or_eq_true, Bool.and_eq_true, decide_eq_true_eq, Nat.add_comm 1 z]
  have RR : ∀ z, m.testBit z = true → hzR A0 St (col / 12) (col % 12) z := fun z hz => h.2.1 _ _ _ (hcell z hz).1 (hcell z hz).2
  unfold hf_one
  rw [he, (hz_dec hcol hm).1, (hz_dec hcol hm).2, d1, d2]
  have s1 := hf_take_I hA0 hE hi (x := nI (col / 12)) (y := nI (col % 12)) (b := (nI m <<< ((1 : Int32) &&& 31)) ||| (nI m >>> ((1 : Int32) &&& 31))) (fun p q z q1 q2 q3 qa => by
    have r := hA0 p q z qa
    have e1 := m0 _ p ha r.1 q1
    have e2 := m0 _ q hc r.2.1 q2
    rw [shb z r.2.2] at q3
    rcases q3 with ⟨g1, g2⟩ | g2
    · exact (RR _ g2).step (by unfold hz_adj; omega) qa
    · exact (RR _ g2).step (by unfold hz_adj; omega) qa)
  have s2 := hf_take_I hA0 s1.1 s1.2.1 (x := nI (col / 12) - 1) (y := nI (col % 12)) (b := nI m) (fun p q z q1 q2 q3 qa => by
    have r := hA0 p q z qa
    have e1 := m1 _ p ha r.1 q1
    have e2 := m0 _ q hc r.2.1 q2
    rw [mb z (by omega)] at q3
    exact (RR _ q3).step (by unfold hz_adj; omega) qa)
  have s3 := hf_take_I hA0 s2.1 s2.2.1 (x := nI (col / 12) + 1) (y := nI (col % 12)) (b := nI m) (fun p q z q1 q2 q3 qa => by
    have r := hA0 p q z qa
    have e1 := m2 _ p ha r.1 q1
    have e2 := m0 _ q hc r.2.1 q2
    rw [mb z (by omega)] at q3
    exact (RR _ q3).step (by unfold hz_adj; omega) qa)
  have s4 := hf_take_I hA0 s3.1 s3.2.1 (x := nI (col / 12)) (y := nI (col % 12) - 1) (b := nI m) (fun p q z q1 q2 q3 qa => by
    have r := hA0 p q z qa
    have e1 := m0 _ p ha r.1 q1
    have e2 := m1 _ q hc r.2.1 q2
    rw [mb z (by omega)] at q3
    exact (RR _ q3).step (by unfold hz_adj; omega) qa)
  have s5 := hf_take_I hA0 s4.1 s4.2.1 (x := nI (col / 12)) (y := nI (col % 12) + 1) (b := nI m) (fun p q z q1 q2 q3 qa => by
    have r := hA0 p q z qa
    have e1 := m0 _ p ha r.1 q1
    have e2 := m2 _ q hc r.2.1 q2
    rw [mb z (by omega)] at q3
    exact (RR _ q3).step (by unfold hz_adj; omega) qa)
  refine ⟨⟨s5.1.1, s5.1.2.1, s5.1.2.2.1, fun x y z q1 q2 => ?_, s5.1.2.2.2.2⟩, s5.2.1, fun p q r hl => s1.2.2.1 _ _ _ (s2.2.2.1 _ _ _ (s3.2.2.1 _ _ _ (s4.2.2.1 _ _ _ (s5.2.2.1 _ _ _ hl))))⟩
  rcases s5.1.2.2.2.1 x y z q1 q2 with g | g | ⟨g1, g2, g3⟩
  · exact Or.inl g
  · exact Or.inr (Or.inl g)
  · refine Or.inr (Or.inl fun x' y' z' ad qa hl => ?_)
    have r := hA0 _ _ _ qa
    have p1 : ∀ u v : Nat, u = v + 1 → nI u - 1 = nI v := by intro u v q; subst q; exact nI_pred v
    have p2 : ∀ u v : Nat, v = u + 1 → nI u + 1 = nI v := by intro u v q; subst q; exact nI_1 u
    have z12 := mlt z g3
    have gz : bt (nI m) z = true := by rw [mb z (by omega)]; exact g3
    rcases ad with ⟨k1, k2, k3 | k3⟩ | ⟨k1, k2, k3 | k3⟩ | ⟨k1, k2, k3 | k3⟩
    · exact s3.2.2.2 x' y' z' (p2 _ _ (by omega)) (by rw [← k1, g2]) (by rw [← k2]; exact gz) (s4.2.2.1 _ _ _ (s5.2.2.1 _ _ _ hl))
    · exact s2.2.2.2 x' y' z' (p1 _ _ (by omega)) (by rw [← k1, g2]) (by rw [← k2]; exact gz) (s3.2.2.1 _ _ _ (s4.2.2.1 _ _ _ (s5.2.2.1 _ _ _ hl)))
    · exact s5.2.2.2 x' y' z' (by rw [← k1, g1]) (p2 _ _ (by omega)) (by rw [← k2]; exact gz) hl
    · exact s4.2.2.2 x' y' z' (by rw [← k1, g1]) (p1 _ _ (by omega)) (by rw [← k2]; exact gz) (s5.2.2.1 _ _ _ hl)
    · exact s1.2.2.2 x' y' z' (by rw [← k1, g1]) (by rw [← k2, g2]) ((shb z' r.2.2).mpr (Or.inl ⟨by omega, by rw [show z' - 1 = z by omega]; exact g3⟩)) (s2.2.2.1 _ _ _ (s3.2.2.1 _ _ _ (s4.2.2.1 _ _ _ (s5.2.2.1 _ _ _ hl))))
    · exact s1.2.2.2 x' y' z' (by rw [← k1, g1]) (by rw [← k2, g2]) ((shb z' r.2.2).mpr (Or.inr (by rw [← k3]; exact g3))) (s2.2.2.1 _ _ _ (s3.2.2.1 _ _ _ (s4.2.2.1 _ _ _ (s5.2.2.1 _ _ _ hl))))
theorem hf_sp_I {A0 St : hzS} (hA0 : ∀ x y z, A0 x y z → x < 12 ∧ y < 12 ∧ z < 12) : ∀ (d i : Nat) (X : HF), hfI A0 St i (fun _ _ _ => False) X → i ≤ X.2.2 → 1728 ≤ i + d → hfI A0 St (hf_sp d i X).2.2 (fun _ _ _ => False) (hf_sp d i X) ∧ (∀ p q r, hz_L (hf_sp d i X).1 p q r → hz_L X.1 p q r) := by
  intro d
  induction d with
  | zero =>
    intro i X h h1 h2
    have r := h.2.2.2.2.1
    have e : i = X.2.2 := by omega
    subst e
    exact ⟨h, fun _ _ _ q => q⟩
  | succ d ih =>
    intro i X h h1 h2
    show hfI A0 St (if i < X.2.2 then hf_sp d (i + 1) (hf_one i X) else X).2.2 _ (if i < X.2.2 then hf_sp d (i + 1) (hf_one i X) else X) ∧ _
    by_cases k : i < X.2.2
    · obtain ⟨o1, o2, o3⟩ := hf_one_I hA0 h k
      obtain ⟨t1, t2⟩ := ih (i + 1) (hf_one i X) o1 o2 (by omega)
      have e : hf_sp (d + 1) i X = hf_sp d (i + 1) (hf_one i X) := if_pos k
      rw [if_pos k, e]
      exact ⟨t1, fun p q r hl => o3 _ _ _ (t2 _ _ _ hl)⟩
    · have e : hf_sp (d + 1) i X = X := if_neg k
      rw [if_neg k, e]
      have e2 : i = X.2.2 := by omega
      subst e2
      exact ⟨h, fun _ _ _ q => q⟩
theorem hf_end {A0 St : hzS} (hA0 : ∀ x y z, A0 x y z → x < 12 ∧ y < 12 ∧ z < 12) {X : HF} (h : hfI A0 St 0 (fun _ _ _ => False) X) (hS : ∀ x y z, St x y z → ¬ hz_L X.1 x y z) : (∀ x y z, hz_L (hf_sp 1728 0 X).1 x y z ↔ A0 x y z ∧ ¬ hzR A0 St x y z) ∧ ∀ j, j < 144 → hb_lo 12 ((hf_sp 1728 0 X).1 j) := by
  obtain ⟨t1, t2⟩ := hf_sp_I hA0 1728 0 X h (Nat.zero_le _) (by omega)
  refine ⟨fun x y z => ?_, t1.2.2.2.2.2⟩
  have C := (hz_close (A := A0) (K := fun _ _ _ => False) (St := St) (L := fun x y z => A0 x y z ∧ ¬ hz_L (hf_sp 1728 0 X).1 x y z) (fun x y z q _ => t1.2.1 x y z q.1 q.2) (fun _ _ _ q => absurd q id) (fun x y z q _ x' y' z' ad qa => by
    rcases t1.2.2.2.1 x y z q.1 q.2 with ⟨q1, m2, g1, -⟩ | g | g
    · omega
    · exact ⟨qa, g x' y' z' ad qa⟩
    · exact absurd g id) (fun _ _ _ _ _ _ q _ _ => absurd q id) (fun x y z q1 q2 => ⟨⟨q2, fun hl => hS x y z q1 (t2 _ _ _ hl)⟩, id⟩) x y z).1
  constructor
  · intro hl
    have a := t1.1 x y z hl
    exact ⟨a, fun q => (C.mpr (Or.inr q)).2 hl⟩
  · rintro ⟨a, q⟩
    apply Classical.byContradiction
    intro hl
    rcases C.mp ⟨a, hl⟩ with g | g
    · exact g
    · exact q g
theorem hf_init {f tk : Nat → Int32} (St : hzS) (hlo : ∀ j, j < 144 → hb_lo 12 (f j)) : hfI (hz_L f) St 0 (fun _ _ _ => False) (f, tk, 0) := by
  refine ⟨fun _ _ _ q => q, fun _ _ _ q1 q2 => absurd q1 q2, fun q hq => absurd hq (Nat.not_lt_zero q), fun _ _ _ q1 q2 => absurd q1 q2, ?_, hlo⟩
  have l12 : ∀ x : Int32, hb_pc 12 x ≤ 12 := fun x => by
    have := hn_sum_le (f := fun z => hb_n (bt x z)) (c := 1) (fun z => by cases bt x z <;> decide) 12
    unfold hb_pc
    omega
  have := hn_sum_le (f := fun i => hb_pc 12 (f i)) (c := 12) (fun i => l12 _) 144
  show 0 + hf_un f ≤ 1728
  unfold hf_un
  omega
theorem hz_L_in {f : Nat → Int32} : ∀ x y z, hz_L f x y z → x < 12 ∧ y < 12 ∧ z < 12 := fun _ _ _ q => q.1
theorem hf_flood {f tk : Nat → Int32} (hlo : ∀ j, j < 144 → hb_lo 12 (f j)) {a b c : Nat} (ha : a < 12) (hb : b < 12) (hc : c < 12) : (hz_L f a b c → 0 < (hf_take (nI a) (nI b) ((1 : Int32) <<< (nI c &&& 31)) (f, tk, 0)).2.2) ∧ (¬ hz_L f a b c → hf_take (nI a) (nI b) ((1 : Int32) <<< (nI c &&& 31)) (f, tk, 0) = (f, tk, 0)) ∧ (∀ x y z, hz_L (hf_sp 1728 0 (hf_take (nI a) (nI b) ((1 : Int32) <<< (nI c &&& 31)) (f, tk, 0))).1 x y z ↔ hz_L f x y z ∧ ¬ hzR (hz_L f) (hz_one a b c) x y z) ∧ ∀ j, j < 144 → hb_lo 12 ((hf_sp 1728 0 (hf_take (nI a) (nI b) ((1 : Int32) <<< (nI c &&& 31)) (f, tk, 0))).1 j) := by
  have e : nI a * 12 + nI b = nI (a * 12 + b) := by
    show nI a * nI 12 + nI b = _
    rw [pk_mul, nI_add]
  have hx : hx_in (nI a) 12 = true := hx_in_lt (n := 12) ha (by decide)
  have hy : hx_in (nI b) 12 = true := hx_in_lt (n := 12) hb (by decide)
  have pw : ∀ z, z < 32 → (bt ((1 : Int32) <<< (nI c &&& 31)) z = true ↔ z = c) := fun z hz => by rw [hb_pow (by omega) hz, decide_eq_true_eq]
  have t := hf_take_I (St := hz_one a b c) hz_L_in (hf_init (tk := tk) (hz_one a b c) hlo) (Nat.le_refl _) (x := nI a) (y := nI b) (b := (1 : Int32) <<< (nI c &&& 31)) (fun p q z q1 q2 q3 qa => by
    have r := qa.1
    have e1 := (nI_eq (by omega) (by omega)).mp q1
    have e2 := (nI_eq (by omega) (by omega)).mp q2
    have e3 := (pw z (by omega)).mp q3
    exact .base ⟨e1.symm, e2.symm, e3⟩ qa)
  refine ⟨fun hl => ?_, fun hl => ?_, hf_end hz_L_in t.1 (fun x y z q => ?_)⟩
  · unfold hf_take
    rw [if_pos hx, if_pos hy, e, nI_clamp (by omega)]
    have hne : ¬ f (a * 12 + b) &&& ((1 : Int32) <<< (nI c &&& 31)) = 0 := fun q => by
      have := congrArg (fun v => bt v c) q
      simp only [b_and, b_0] at this
      rw [hl.2, (pw c (by omega)).mpr rfl] at this
      cases this
    show 0 < (if f (a * 12 + b) &&& ((1 : Int32) <<< (nI c &&& 31)) = 0 then (f, tk, 0) else if (0 : Nat) < 1728 then _ else _ : HF).2.2
    rw [if_neg hne, if_pos (by decide)]
    exact Nat.zero_lt_one
  · unfold hf_take
    rw [if_pos hx, if_pos hy, e, nI_clamp (by omega)]
    refine if_pos ?_
    apply b_ext
    intro z hz
    show bt (f (a * 12 + b) &&& ((1 : Int32) <<< (nI c &&& 31))) z = _
    rw [b_and, b_0]
    by_cases k : z = c
    · subst k
      have : bt (f (a * 12 + b)) z = false := Bool.eq_false_iff.mpr (fun q => hl ⟨⟨ha, hb, hc⟩, q⟩)
      rw [this, Bool.false_and]
    · have : bt ((1 : Int32) <<< (nI c &&& 31)) z = false := Bool.eq_false_iff.mpr (fun q => k ((pw z hz).mp q))
      rw [this, Bool.and_false]
  · obtain ⟨rfl, rfl, rfl⟩ := q
    exact t.2.2.2 _ _ _ rfl rfl ((pw _ (by omega)).mpr rfl)
