theorem hz_code {a b c x y z : Nat} (ha : a < 12) (hb : b < 12) (hc : c < 12) (hx : x < 12) (hy : y < 12) (hz : z < 12) (h : nI (144 * x + 12 * y + z) = nI (144 * a + 12 * b + c)) : x = a ∧ y = b ∧ z = c := by
  have := (nI_eq (by omega) (by omega)).mp h
  omega
theorem hm_bd_iff {a b c : Nat} (ha : a < 12) (hb : b < 12) (hc : c < 12) (bo : Bool) : hm_bd (nI (144 * a + 12 * b + c)) bo = true ↔ bo = true ∨ hz_bd a b c := by
  have e1 : nI (144 * a + 12 * b + c) / 144 = nI a := by
    show nI _ / nI 144 = _
    rw [pk_div (by omega) (by decide) (by decide), show (144 * a + 12 * b + c) / 144 = a by omega]
  have e2 : nI (144 * a + 12 * b + c) / 12 - nI (144 * a + 12 * b + c) / 12 / 12 * 12 = nI b := by
    show nI _ / nI 12 - nI _ / nI 12 / nI 12 * nI 12 = _
    rw [pk_div (by omega) (by decide) (by decide), pk_rem (by omega) (by decide) (by decide), show (144 * a + 12 * b + c) / 12 % 12 = b by omega]
  have e3 : nI (144 * a + 12 * b + c) - nI (144 * a + 12 * b + c) / 12 * 12 = nI c := by
    show nI _ - nI _ / nI 12 * nI 12 = _
    rw [pk_rem (by omega) (by decide) (by decide), show (144 * a + 12 * b + c) % 12 = c by omega]
  have z0 : ∀ u : Nat, u < 12 → (nI u = 0 ↔ u = 0) := fun u hu => nI_eq (b := 0) (by omega) (by decide)
  have z1 : ∀ u : Nat, u < 12 → (nI u = 11 ↔ u = 11) := fun u hu => nI_eq (b := 11) (by omega) (by decide)
  unfold hm_bd hz_bd
  rw [e1, e2, e3]
  simp only [Bool.or_eq_true, decide_eq_true_eq, z0 a ha, z0 b hb, z0 c hc, z1 a ha, z1 b hb, z1 c hc]
theorem hm_spr_I {bi : Nat → Int32} {s : Nat} {w : Int32} {K St : hzS} : ∀ (N : Nat) (Y : HF) (bo : Bool), hmI bi s w K St (fun _ _ _ => False) Y → hmB K (fun _ _ _ => False) Y bo → hm_mu Y < N → (hm_spr bi s w N (Y, bo)).1.2.2 = 0 ∧ hmI bi s w K St (fun _ _ _ => False) (hm_spr bi s w N (Y, bo)).1 ∧ hmB K (fun _ _ _ => False) (hm_spr bi s w N (Y, bo)).1 (hm_spr bi s w N (Y, bo)).2 := by
  intro N
  induction N with
  | zero => intro Y bo _ _ h; omega
  | succ N ih =>
    rintro ⟨S, P, n⟩ bo h hB hmu
    cases n with
    | zero => rw [hm_spr_0]; exact ⟨rfl, h, hB⟩
    | succ n =>
      rw [hm_spr_s]
      obtain ⟨a, b, c, he, hl, hk⟩ := h.k3 n (Nat.lt_succ_self _)
      have hr := hl.1
      have he' : P n = nI (144 * a + 12 * b + c) := he
      have hI : hmI bi s w K St (fun x y z => x = a ∧ y = b ∧ z = c) (S, P, n) := by
        refine ⟨h.k1, h.k2, fun j hj => h.k3 j (Nat.lt_succ_of_lt hj), fun x y z q1 q2 => ?_⟩
        rcases h.k4 x y z q1 q2 with ⟨j, j1, j2⟩ | g | g
        · by_cases q : j = n
          · subst q
            exact Or.inr (Or.inr (hz_code hr.1 hr.2.1 hr.2.2 q1.1.1 q1.1.2.1 q1.1.2.2 (j2.symm.trans he)))
          · exact Or.inl ⟨j, by simp only at j1 ⊢; omega, j2⟩
        · exact Or.inr (Or.inl g)
        · exact absurd g id
      have hBI : hmB K (fun x y z => x = a ∧ y = b ∧ z = c) (S, P, n) (hm_bd (P n) bo) := by
        refine ⟨fun q => ?_, fun x y z q0 q1 q2 => ?_⟩
        · rw [he', hm_bd_iff hr.1 hr.2.1 hr.2.2] at q
          rcases q with q | q
          · exact hB.b1 q
          · exact ⟨a, b, c, q, hl, hk⟩
        · rw [he', hm_bd_iff hr.1 hr.2.1 hr.2.2]
          rcases hB.b2 x y z q0 q1 q2 with ⟨j, j1, j2⟩ | g
          · by_cases q : j = n
            · subst q
              obtain ⟨rfl, rfl, rfl⟩ := hz_code hr.1 hr.2.1 hr.2.2 q1.1.1 q1.1.2.1 q1.1.2.2 (j2.symm.trans he)
              exact Or.inr (Or.inr q0)
            · exact Or.inl ⟨j, by simp only at j1 ⊢; omega, j2⟩
          · exact Or.inr (Or.inl g)
      have o := hm_one_I hr.1 hr.2.1 hr.2.2 he' hI hBI (h.k2 a b c hl hk)
      refine ih _ _ o.1 o.2.1 ?_
      have m1 := hm_one_mu (bi := bi) (s := s) (w := w) (Y := (S, P, n))
      unfold hm_mu at m1 hmu ⊢
      simp only at m1 hmu ⊢
      omega
theorem hz_close {A K St L : hzS} (k2 : ∀ x y z, L x y z → ¬ K x y z → hzR A St x y z) (k1 : ∀ x y z, K x y z → L x y z) (k4 : ∀ x y z, L x y z → ¬ K x y z → ∀ x' y' z', hz_adj x y z x' y' z' → A x' y' z' → L x' y' z') (hK : ∀ x y z x' y' z', K x y z → hz_adj x y z x' y' z' → A x' y' z' → K x' y' z') (hS : ∀ x y z, St x y z → A x y z → L x y z ∧ ¬ K x y z) (x y z : Nat) : (L x y z ↔ K x y z ∨ hzR A St x y z) ∧ (hzR A St x y z → ¬ K x y z) := by
  have key : ∀ x y z, hzR A St x y z → A x y z ∧ L x y z ∧ ¬ K x y z := by
    intro x y z h
    refine h (fun x y z => A x y z ∧ L x y z ∧ ¬ K x y z) (fun x y z h1 h2 => ⟨h2, hS x y z h1 h2⟩) (fun x y z x' y' z' h1 h2 h3 => ?_)
    exact ⟨h3, k4 x y z h1.2.1 h1.2.2 x' y' z' h2 h3, fun q => h1.2.2 (hK x' y' z' x y z q (hz_adj_s h2) h1.1)⟩
  refine ⟨⟨fun h => ?_, ?_⟩, fun h => (key x y z h).2.2⟩
  · by_cases q : K x y z
    · exact Or.inl q
    · exact Or.inr (k2 x y z h q)
  · rintro (h | h)
    · exact k1 x y z h
    · exact (key x y z h).2.1
def hz_one (a b c : Nat) : hzS := fun x y z => x = a ∧ y = b ∧ z = c
theorem hm_flood {bi : Nat → Int32} {s : Nat} {w : Int32} {S P : Nat → Int32} {a b c : Nat} (hA : hz_A bi s w a b c) (hn : ¬ hz_L S a b c) (hK : ∀ x y z x' y' z', hz_L S x y z → hz_adj x y z x' y' z' → hz_A bi s w x' y' z' → hz_L S x' y' z') : (hm_see bi s w (nI a) (nI b) (nI c) (S, P, 0)).2.2 = 1 ∧ (∀ x y z, (hz_L (hm_spr bi s w 5185 (hm_see bi s w (nI a) (nI b) (nI c) (S, P, 0), false)).1.1 x y z ↔ hz_L S x y z ∨ hzR (hz_A bi s w) (hz_one a b c) x y z) ∧ (hzR (hz_A bi s w) (hz_one a b c) x y z → ¬ hz_L S x y z)) ∧ ((hm_spr bi s w 5185 (hm_see bi s w (nI a) (nI b) (nI c) (S, P, 0), false)).2 = true ↔ ∃ x y z, hz_bd x y z ∧ hzR (hz_A bi s w) (hz_one a b c) x y z) := by
  have h0 : hmI bi s w (hz_L S) (hz_one a b c) (fun _ _ _ => False) (S, P, 0) := ⟨fun _ _ _ q => q, fun _ _ _ q1 q2 => absurd q1 q2, fun j hj => absurd hj (Nat.not_lt_zero j), fun _ _ _ q1 q2 => absurd q1 q2⟩
  have b0 : hmB (hz_L S) (fun _ _ _ => False) (S, P, 0) false := ⟨fun q => (by cases q), fun _ _ _ _ q1 q2 => absurd q1 q2⟩
  have s1 := hm_see_I h0 b0 (x := nI a) (y := nI b) (z := nI c) (fun a' b' c' q1 q2 q3 qa => by
    have r1 := hA.1
    have r2 := qa.1
    have e1 := (nI_eq (by omega) (by omega)).mp q1
    have e2 := (nI_eq (by omega) (by omega)).mp q2
    have e3 := (nI_eq (by omega) (by omega)).mp q3
    subst e1 e2 e3
    exact .base ⟨rfl, rfl, rfl⟩ qa)
  have t1 := hm_spr_I 5185 _ false s1.1 s1.2.1 (hm_mu_lt (hm_see_ok hm_ok0))
  have n1 : hm_new bi s w (S, P, 0) (nI a) (nI b) (nI c) = true := (hm_new_iff hA.1.1 hA.1.2.1 hA.1.2.2).mpr ⟨hA, hn⟩
  have z0 := t1.1
  refine ⟨by rw [hm_see_yes n1], ?_⟩
  have mono : ∀ (N : Nat) (Y : HF) (bo : Bool), (∀ x y z, hz_L Y.1 x y z → hz_L (hm_spr bi s w N (Y, bo)).1.1 x y z) := by
    have ms : ∀ (x y z : Int32) (Y : HF) (p q r : Nat), hz_L Y.1 p q r → hz_L (hm_see bi s w x y z Y).1 p q r := by
      intro x y z Y p q r hl
      cases hw : hm_new bi s w Y x y z with
      | false => rw [hm_see_no hw]; exact hl
      | true =>
        have hw2 := hw
        simp only [hm_new, Bool.and_eq_true] at hw2
        obtain ⟨h1, h2, h3, -⟩ := hw2
        obtain ⟨a, ha, rfl⟩ := hx_in_nat (n := 12) (by decide) h1
        obtain ⟨b, hb, rfl⟩ := hx_in_nat (n := 12) (by decide) h2
        obtain ⟨c, hc, rfl⟩ := hx_in_nat (n := 12) (by decide) h3
        have e : 12 * nI a + nI b = nI (a * 12 + b) := by
          show nI 12 * nI a + nI b = _
          rw [pk_mul, nI_add, Nat.mul_comm]
        rw [hm_see_yes hw, e, nI_clamp (by omega)]
        exact (hz_L_up ha hb hc p q r).mpr (Or.inl hl)
    intro N
    induction N with
    | zero => intro Y bo x y z q; exact q
    | succ N ih =>
      rintro ⟨S, P, n⟩ bo x y z q
      cases n with
      | zero => rw [hm_spr_0]; exact q
      | succ n =>
        rw [hm_spr_s]
        refine ih _ _ x y z ?_
        unfold hm_one
        exact ms _ _ _ _ _ _ _ (ms _ _ _ _ _ _ _ (ms _ _ _ _ _ _ _ (ms _ _ _ _ _ _ _ (ms _ _ _ _ _ _ _ (ms _ _ _ _ _ _ _ q)))))
  have C := fun x y z => hz_close (A := hz_A bi s w) (K := hz_L S) (St := hz_one a b c) (L := hz_L (hm_spr bi s w 5185 (hm_see bi s w (nI a) (nI b) (nI c) (S, P, 0), false)).1.1) t1.2.1.k2 t1.2.1.k1 (fun x y z q1 q2 => by
    rcases t1.2.1.k4 x y z q1 q2 with ⟨j, j1, _⟩ | g | g
    · rw [z0] at j1; exact absurd j1 (Nat.not_lt_zero j)
    · exact g
    · exact absurd g id) hK (fun x y z q1 q2 => by
    obtain ⟨rfl, rfl, rfl⟩ := q1
    exact ⟨mono _ _ _ _ _ _ (s1.2.2.2 _ _ _ rfl rfl rfl hA), hn⟩) x y z
  refine ⟨C, ⟨fun q => ?_, ?_⟩⟩
  · obtain ⟨x, y, z, g1, g2, g3⟩ := t1.2.2.b1 q
    exact ⟨x, y, z, g1, ((C x y z).1.mp g2).resolve_left g3⟩
  · rintro ⟨x, y, z, g1, g2⟩
    rcases t1.2.2.b2 x y z g1 ((C x y z).1.mpr (Or.inr g2)) ((C x y z).2 g2) with ⟨j, j1, _⟩ | g
    · rw [z0] at j1; exact absurd j1 (Nat.not_lt_zero j)
    · exact g
