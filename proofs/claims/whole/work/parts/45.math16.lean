theorem hzR.trans {A St : hzS} {a b c x y z : Nat} (h : hzR A St a b c) (h2 : hzR A (hz_one a b c) x y z) : hzR A St x y z := h2 (hzR A St) (fun x y z q _ => by obtain ⟨rfl, rfl, rfl⟩ := q; exact h) (fun _ _ _ _ _ _ q1 q2 q3 => q1.step q2 q3)
theorem hzR.back {A St : hzS} {x y z : Nat} (h : hzR A St x y z) : ∃ p q r, St p q r ∧ hzR A (hz_one x y z) p q r := (h (fun x y z => A x y z ∧ ∃ p q r, St p q r ∧ hzR A (hz_one x y z) p q r) (fun x y z q1 q2 => ⟨q2, x, y, z, q1, .base ⟨rfl, rfl, rfl⟩ q2⟩) (fun x y z x' y' z' q1 q2 q3 => by
  obtain ⟨a, p, q, r, g1, g2⟩ := q1
  exact ⟨q3, p, q, r, g1, (hzR.step (.base ⟨rfl, rfl, rfl⟩ q3) (hz_adj_s q2) a).trans g2⟩)).2
def hz_J (A B : hzS) (Z : (HF × Bool) × Int32) (X : HF) (n : Int32) : Prop :=
  (∀ x y z, hz_L X.1 x y z ↔ A x y z ∧ ¬ B x y z ∧ ¬ hz_L Z.1.1.1 x y z) ∧ n = Z.2 ∧ (∀ j, j < 144 → hb_lo 12 (X.1 j)) ∧ (∀ x y z x' y' z', hz_L Z.1.1.1 x y z → hz_adj x y z x' y' z' → A x' y' z' → hz_L Z.1.1.1 x' y' z')
def hf_b (x0 y0 : Int32) (z : Nat) (Z : HF × Int32) : HF × Int32 := if 0 < (hf_take x0 y0 ((1 : Int32) <<< (nI z &&& 31)) (Z.1.1, Z.1.2.1, 0)).2.2 then (hf_sp 1728 0 (hf_take x0 y0 ((1 : Int32) <<< (nI z &&& 31)) (Z.1.1, Z.1.2.1, 0)), Z.2 + 1) else (hf_take x0 y0 ((1 : Int32) <<< (nI z &&& 31)) (Z.1.1, Z.1.2.1, 0), Z.2)
theorem hz_J_step {bi : Nat → Int32} {s : Nat} {w : Int32} {B : hzS} (hB0 : ∀ x y z, hz_A bi s w x y z → B x y z → w = 0 ∧ ∃ p q r, hz_bd p q r ∧ hzR (hz_A bi s w) (hz_one x y z) p q r) (hB1 : ∀ x y z, hz_A bi s w x y z → w = 0 → hz_bd x y z → B x y z) (hBc : ∀ x y z x' y' z', B x y z → hz_adj x y z x' y' z' → hz_A bi s w x' y' z' → B x' y' z') {a b c k : Nat} (ha : a < 12) (hb : b < 12) (hc : c < 12) (hk : k = 144 * a + 12 * b + c) {Z : (HF × Bool) × Int32} {V : HF × Int32} {n0 : Int32} (h : hz_J (hz_A bi s w) B Z V.1 (n0 + V.2)) : hz_J (hz_A bi s w) B (hm_set1 bi s w k Z) (hf_b (nI a) (nI b) c V).1 (n0 + (hf_b (nI a) (nI b) c V).2) := by
  obtain ⟨j1, j2, j3, j4⟩ := h
  have k1 : k / 144 = a := by omega
  have k2 : (k / 12) % 12 = b := by omega
  have k3 : k % 12 = c := by omega
  obtain ⟨f1, f2, f3, f4⟩ := hf_flood (f := V.1.1) (tk := V.1.2.1) j3 ha hb hc
  unfold hm_set1 hf_b
  rw [k1, k2, k3]
  by_cases hn : hz_A bi s w a b c ∧ ¬ hz_L Z.1.1.1 a b c
  · obtain ⟨m1, m2, m3⟩ := hm_flood (P := Z.1.1.2.1) hn.1 hn.2 j4
    rw [m1, if_pos Nat.zero_lt_one]
    have closed' : ∀ x y z x' y' z', hz_L (hm_spr bi s w 5185 (hm_see bi s w (nI a) (nI b) (nI c) (Z.1.1.1, Z.1.1.2.1, 0), false)).1.1 x y z → hz_adj x y z x' y' z' → hz_A bi s w x' y' z' → hz_L (hm_spr bi s w 5185 (hm_see bi s w (nI a) (nI b) (nI c) (Z.1.1.1, Z.1.1.2.1, 0), false)).1.1 x' y' z' := by
      intro x y z x' y' z' q1 q2 q3
      rcases (m2 x y z).1.mp q1 with g | g
      · exact (m2 x' y' z').1.mpr (Or.inl (j4 x y z x' y' z' g q2 q3))
      · exact (m2 x' y' z').1.mpr (Or.inr (g.step q2 q3))
    by_cases hBc0 : B a b c
    · have nl : ¬ hz_L V.1.1 a b c := fun q => ((j1 a b c).mp q).2.1 hBc0
      rw [f2 nl, if_neg (Nat.lt_irrefl 0)]
      obtain ⟨w0, p, q, r, g1, g2⟩ := hB0 a b c hn.1 hBc0
      have bt1 := m3.mpr ⟨p, q, r, g1, g2⟩
      refine ⟨fun x y z => ?_, ?_, j3, closed'⟩
      · have RB : hzR (hz_A bi s w) (hz_one a b c) x y z → B x y z := fun g => g B (fun x y z q _ => by obtain ⟨rfl, rfl, rfl⟩ := q; exact hBc0) (fun x y z x' y' z' q1 q2 q3 => hBc x y z x' y' z' q1 q2 q3)
        constructor
        · intro q
          obtain ⟨q1, q2, q3⟩ := (j1 x y z).mp q
          exact ⟨q1, q2, fun g => by
            rcases (m2 x y z).1.mp g with g | g
            · exact q3 g
            · exact q2 (RB g)⟩
        · rintro ⟨q1, q2, q3⟩
          exact (j1 x y z).mpr ⟨q1, q2, fun g => q3 ((m2 x y z).1.mpr (Or.inl g))⟩
      · show n0 + V.2 = Z.2 + (if w = 0 ∧ _ = true then 0 else 1)
        rw [if_pos ⟨w0, bt1⟩, j2, Int32.add_zero]
    · have hl : hz_L V.1.1 a b c := (j1 a b c).mpr ⟨hn.1, hBc0, hn.2⟩
      rw [if_pos (f1 hl)]
      have RnB : ∀ x y z, hzR (hz_A bi s w) (hz_one a b c) x y z → hz_A bi s w x y z ∧ ¬ B x y z := fun x y z g => g (fun x y z => hz_A bi s w x y z ∧ ¬ B x y z) (fun x y z q qa => by obtain ⟨rfl, rfl, rfl⟩ := q; exact ⟨qa, hBc0⟩) (fun x y z x' y' z' q1 q2 q3 => ⟨q3, fun q => q1.2 (hBc x' y' z' x y z q (hz_adj_s q2) q1.1)⟩)
      have RL : ∀ x y z, hzR (hz_A bi s w) (hz_one a b c) x y z ↔ hzR (hz_L V.1.1) (hz_one a b c) x y z := by
        intro x y z
        constructor
        · intro g
          refine (g (fun x y z => hzR (hz_A bi s w) (hz_one a b c) x y z ∧ hzR (hz_L V.1.1) (hz_one a b c) x y z) (fun x y z q qa => ?_) (fun x y z x' y' z' q1 q2 q3 => ?_)).2
          · have g0 : hzR (hz_A bi s w) (hz_one a b c) x y z := .base q qa
            exact ⟨g0, .base q ((j1 x y z).mpr ⟨qa, (RnB x y z g0).2, (m2 x y z).2 g0⟩)⟩
          · have g0 := q1.1.step q2 q3
            exact ⟨g0, q1.2.step q2 ((j1 x' y' z').mpr ⟨q3, (RnB x' y' z' g0).2, (m2 x' y' z').2 g0⟩)⟩
        · exact fun g => g.mono (fun x y z q => ((j1 x y z).mp q).1) (fun _ _ _ q => q)
      refine ⟨fun x y z => ?_, ?_, f4, closed'⟩
      · rw [f3 x y z, j1 x y z, ← RL x y z]
        constructor
        · rintro ⟨⟨q1, q2, q3⟩, q4⟩
          exact ⟨q1, q2, fun g => by
            rcases (m2 x y z).1.mp g with g | g
            · exact q3 g
            · exact q4 g⟩
        · rintro ⟨q1, q2, q3⟩
          exact ⟨⟨q1, q2, fun g => q3 ((m2 x y z).1.mpr (Or.inl g))⟩, fun g => q3 ((m2 x y z).1.mpr (Or.inr g))⟩
      · show n0 + (V.2 + 1) = Z.2 + (if w = 0 ∧ _ = true then 0 else 1)
        rw [if_neg (fun q => by
          obtain ⟨p, q', r, g1, g2⟩ := m3.mp q.2
          have := RnB p q' r g2
          exact this.2 (hB1 p q' r this.1 q.1 g1)), ← Int32.add_assoc, j2]
  · have nl : ¬ hz_L V.1.1 a b c := fun q => hn ⟨((j1 a b c).mp q).1, ((j1 a b c).mp q).2.2⟩
    have nn : hm_new bi s w (Z.1.1.1, Z.1.1.2.1, 0) (nI a) (nI b) (nI c) = false := Bool.eq_false_iff.mpr (fun q => hn ((hm_new_iff ha hb hc).mp q))
    rw [f2 nl, hm_see_no nn, if_neg (Nat.lt_irrefl 0), if_neg (Nat.lt_irrefl 0)]
    exact ⟨j1, j2, j3, j4⟩
theorem hz_J_all {bi : Nat → Int32} {s : Nat} {w : Int32} {B : hzS} (hB0 : ∀ x y z, hz_A bi s w x y z → B x y z → w = 0 ∧ ∃ p q r, hz_bd p q r ∧ hzR (hz_A bi s w) (hz_one x y z) p q r) (hB1 : ∀ x y z, hz_A bi s w x y z → w = 0 → hz_bd x y z → B x y z) (hBc : ∀ x y z x' y' z', B x y z → hz_adj x y z x' y' z' → hz_A bi s w x' y' z' → B x' y' z') {Z : (HF × Bool) × Int32} {X : HF} (h : hz_J (hz_A bi s w) B Z X 0) : (hf_cl X).2 = (hx_it (hm_set1 bi s w) 1728 Z).2 := by
  have col : ∀ a b, a < 12 → b < 12 → ∀ (X : HF) (n : Int32), hz_J (hz_A bi s w) B (hx_it (hm_set1 bi s w) (144 * a + 12 * b) Z) X n → hz_J (hz_A bi s w) B (hx_it (hm_set1 bi s w) (144 * a + 12 * (b + 1)) Z) (hf_cf (nI a) (nI b) X).1 (n + (hf_cf (nI a) (nI b) X).2) := by
    intro a b ha hb X n h0
    have key : ∀ c, c ≤ 12 → hz_J (hz_A bi s w) B (hx_it (hm_set1 bi s w) (144 * a + 12 * b + c) Z) (hx_it (fun z V => hf_b (nI a) (nI b) z V) c (X, 0)).1 (n + (hx_it (fun z V => hf_b (nI a) (nI b) z V) c (X, 0)).2) := by
      intro c
      induction c with
      | zero =>
        intro _
        show hz_J _ _ _ X (n + 0)
        rw [Int32.add_zero]
        exact h0
      | succ c ih =>
        intro hc
        exact hz_J_step hB0 hB1 hBc ha hb (show c < 12 by omega) rfl (ih (by omega))
    have e := key 12 (Nat.le_refl _)
    rw [show 144 * a + 12 * b + 12 = 144 * a + 12 * (b + 1) by omega] at e
    exact e
  have row : ∀ a, a < 12 → ∀ (V : HF × Int32), hz_J (hz_A bi s w) B (hx_it (hm_set1 bi s w) (144 * a) Z) V.1 V.2 → ∀ b, b ≤ 12 → hz_J (hz_A bi s w) B (hx_it (hm_set1 bi s w) (144 * a + 12 * b) Z) (hx_it (fun y (Z : HF × Int32) => ((hf_cf (nI a) (nI y) Z.1).1, Z.2 + (hf_cf (nI a) (nI y) Z.1).2)) b V).1 (hx_it (fun y (Z : HF × Int32) => ((hf_cf (nI a) (nI y) Z.1).1, Z.2 + (hf_cf (nI a) (nI y) Z.1).2)) b V).2 := by
    intro a ha V h0 b
    induction b with
    | zero => intro _; exact h0
    | succ b ih => intro hb; exact col a b ha (by omega) _ _ (ih (by omega))
  have all : ∀ a, a ≤ 12 → hz_J (hz_A bi s w) B (hx_it (hm_set1 bi s w) (144 * a) Z) (hx_it (fun x (Z : HF × Int32) => hx_it (fun y (Z : HF × Int32) => ((hf_cf (nI x) (nI y) Z.1).1, Z.2 + (hf_cf (nI x) (nI y) Z.1).2)) 12 Z) a (X, 0)).1 (hx_it (fun x (Z : HF × Int32) => hx_it (fun y (Z : HF × Int32) => ((hf_cf (nI x) (nI y) Z.1).1, Z.2 + (hf_cf (nI x) (nI y) Z.1).2)) 12 Z) a (X, 0)).2 := by
    intro a
    induction a with
    | zero => intro _; exact h
    | succ a ih =>
      intro ha
      have e := row a (by omega) _ (ih (by omega)) 12 (Nat.le_refl _)
      rw [show 144 * a + 12 * 12 = 144 * (a + 1) by omega] at e
      exact e
  exact (all 12 (Nat.le_refl _)).2.1
theorem hz_cpy_at (g : Nat → Int32) (F : Nat → Int32) : ∀ n j, hx_it (fun i F => upd F i (g i)) n F j = if j < n then g j else F j := by
  intro n
  induction n with
  | zero => intro j; rw [if_neg (by omega)]; rfl
  | succ n ih =>
    intro j
    show upd (hx_it (fun i F => upd F i (g i)) n F) n (g n) j = _
    by_cases hj : j = n
    · subst hj; rw [pk_us, if_pos (by omega)]
    · rw [pk_un hj, ih]
      by_cases h1 : j < n
      · rw [if_pos h1, if_pos (by omega)]
      · rw [if_neg h1, if_neg (by omega)]
theorem hz_seen0 (F : Nat → Int32) (x y z : Nat) : ¬ hz_L (hx_it (fun k F => upd F k 0) 144 F) x y z := by
  rintro ⟨h1, h2⟩
  rw [hz_cpy_at (fun _ => 0) F 144 (x * 12 + y), if_pos (by omega), b_0] at h2
  cases h2
theorem hz_A1 {f bi : Nat → Int32} {s : Nat} (h : hs_R f bi s) (hs : s < 6) (x y z : Nat) : hz_A bi s 1 x y z ↔ hz_L f x y z := by
  unfold hz_A hz_L
  constructor
  · rintro ⟨h1, h2⟩
    refine ⟨h1, ?_⟩
    rw [hz_has h hs, nI_toInt (by omega), nI_toInt (by omega), nI_toInt (by omega), hz_c_n h1.1 h1.2.1 h1.2.2] at h2
    revert h2
    cases bt (f (x * 12 + y)) z <;> decide
  · rintro ⟨h1, h2⟩
    refine ⟨h1, ?_⟩
    rw [hz_has h hs, nI_toInt (by omega), nI_toInt (by omega), nI_toInt (by omega), hz_c_n h1.1 h1.2.1 h1.2.2, h2]
    rfl
theorem hz_A0 {f bi : Nat → Int32} {s : Nat} (h : hs_R f bi s) (hs : s < 6) (x y z : Nat) : hz_A bi s 0 x y z ↔ (x < 12 ∧ y < 12 ∧ z < 12) ∧ bt (f (x * 12 + y)) z = false := by
  unfold hz_A
  constructor
  · rintro ⟨h1, h2⟩
    refine ⟨h1, ?_⟩
    rw [hz_has h hs, nI_toInt (by omega), nI_toInt (by omega), nI_toInt (by omega), hz_c_n h1.1 h1.2.1 h1.2.2] at h2
    revert h2
    cases bt (f (x * 12 + y)) z <;> decide
  · rintro ⟨h1, h2⟩
    refine ⟨h1, ?_⟩
    rw [hz_has h hs, nI_toInt (by omega), nI_toInt (by omega), nI_toInt (by omega), hz_c_n h1.1 h1.2.1 h1.2.2, h2]
    rfl
theorem hq_pieces {f bi : Nat → Int32} {s : Nat} (h : hs_R f bi s) (hs : s < 6) (X Y : HF) (b : Bool) : (hf_pc f X).2 = (hm_sets bi s 1 Y b).2 := by
  unfold hf_pc hm_sets
  refine hz_J_all (B := fun _ _ _ => False) (fun _ _ _ _ q => absurd q id) (fun _ _ _ _ q _ => absurd q (by decide)) (fun _ _ _ _ _ _ q _ _ => q) ⟨fun x y z => ?_, rfl, fun j hj => ?_, fun x y z x' y' z' q => absurd q (hz_seen0 _ _ _ _)⟩
  · rw [hz_A1 h hs]
    unfold hz_L
    show (_ ∧ bt (hx_it (fun i F => upd F i (f i)) 144 X.1 (x * 12 + y)) z = true) ↔ _
    constructor
    · rintro ⟨h1, h2⟩
      rw [hz_cpy_at f X.1 144, if_pos (by omega)] at h2
      exact ⟨⟨h1, h2⟩, id, hz_seen0 _ _ _ _⟩
    · rintro ⟨⟨h1, h2⟩, -⟩
      refine ⟨h1, ?_⟩
      rw [hz_cpy_at f X.1 144, if_pos (by omega)]
      exact h2
  · show hb_lo 12 (hx_it (fun i F => upd F i (f i)) 144 X.1 j)
    rw [hz_cpy_at f X.1 144, if_pos hj]
    exact (h j hj).2
theorem hf_bm_b {x y z : Nat} (hx : x < 12) (hy : y < 12) (hz : z < 12) : bt (hf_bm x y) z = true ↔ hz_bd x y z := by
  have b1 : ∀ z, z < 12 → (bt 2049 z = true ↔ z = 0 ∨ z = 11) := by decide +kernel
  unfold hf_bm hz_bd
  have e : (nI x = 0 ∨ nI x = 11 ∨ nI y = 0 ∨ nI y = 11) ↔ (x = 0 ∨ x = 11 ∨ y = 0 ∨ y = 11) := by
    rw [show (nI x = 0 ↔ x = 0) from nI_eq (b := 0) (by omega) (by decide), show (nI x = 11 ↔ x = 11) from nI_eq (b := 11) (by omega) (by decide), show (nI y = 0 ↔ y = 0) from nI_eq (b := 0) (by omega) (by decide), show (nI y = 11 ↔ y = 11) from nI_eq (b := 11) (by omega) (by decide)]
  by_cases q : x = 0 ∨ x = 11 ∨ y = 0 ∨ y = 11
  · rw [if_pos (e.mpr q), hb_4095 (by omega), decide_eq_true_eq]
    omega
  · rw [if_neg (fun t => q (e.mp t)), b1 z hz]
    omega
theorem hf_db_at {f tk : Nat → Int32} {en : Nat} (hlo : ∀ j, j < 144 → hb_lo 12 (f j)) : (∀ x y z, hz_L (hf_db (f, tk, en)).1 x y z ↔ hz_L f x y z ∧ ¬ hzR (hz_L f) hz_bd x y z) ∧ ∀ j, j < 144 → hb_lo 12 ((hf_db (f, tk, en)).1 j) := by
  unfold hf_db
  have inner : ∀ a, a < 12 → ∀ X : HF, hfI (hz_L f) hz_bd 0 (fun _ _ _ => False) X → ∀ n, n ≤ 12 → hfI (hz_L f) hz_bd 0 (fun _ _ _ => False) (hx_it (fun y F => hf_take (nI a) (nI y) (hf_bm a y) F) n X) ∧ (∀ p q r, hz_L (hx_it (fun y F => hf_take (nI a) (nI y) (hf_bm a y) F) n X).1 p q r → hz_L X.1 p q r) ∧ (∀ y z, y < n → hz_bd a y z → ¬ hz_L (hx_it (fun y F => hf_take (nI a) (nI y) (hf_bm a y) F) n X).1 a y z) := by
    intro a ha X h0 n
    induction n with
    | zero => intro _; exact ⟨h0, fun _ _ _ q => q, fun _ _ q => absurd q (Nat.not_lt_zero _)⟩
    | succ n ih =>
      intro hn
      obtain ⟨i1, i2, i3⟩ := ih (by omega)
      have t := hf_take_I hz_L_in i1 (Nat.zero_le _) (x := nI a) (y := nI n) (b := hf_bm a n) (fun p q z q1 q2 q3 qa => by
        have r := qa.1
        have e1 := (nI_eq (by omega) (by omega)).mp q1
        have e2 := (nI_eq (by omega) (by omega)).mp q2
        subst e1 e2
        exact .base ((hf_bm_b ha (by omega) r.2.2).mp q3) qa)
      refine ⟨t.1, fun p q r hl => i2 _ _ _ (t.2.2.1 _ _ _ hl), fun y z hy hbd hl => ?_⟩
      by_cases k : y = n
      · subst k
        exact t.2.2.2 a y z rfl rfl ((hf_bm_b ha (by omega) hl.1.2.2).mpr hbd) hl
      · exact i3 y z (by omega) hbd (t.2.2.1 _ _ _ hl)
  have outer : ∀ n, n ≤ 12 → hfI (hz_L f) hz_bd 0 (fun _ _ _ => False) (hx_it (fun x F => hx_it (fun y F => hf_take (nI x) (nI y) (hf_bm x y) F) 12 F) n (f, tk, 0)) ∧ (∀ x y z, x < n → hz_bd x y z → ¬ hz_L (hx_it (fun x F => hx_it (fun y F => hf_take (nI x) (nI y) (hf_bm x y) F) 12 F) n (f, tk, 0)).1 x y z) := by
    intro n
    induction n with
    | zero => intro _; exact ⟨hf_init _ hlo, fun _ _ _ q => absurd q (Nat.not_lt_zero _)⟩
    | succ n ih =>
      intro hn
      obtain ⟨i1, i2⟩ := ih (by omega)
      obtain ⟨t1, t2, t3⟩ := inner n (by omega) _ i1 12 (Nat.le_refl _)
      refine ⟨t1, fun x y z hx hbd hl => ?_⟩
      by_cases k : x = n
      · subst k
        exact t3 y z hl.1.2.1 hbd hl
      · exact i2 x y z (by omega) hbd (t2 _ _ _ hl)
  obtain ⟨o1, o2⟩ := outer 12 (Nat.le_refl _)
  exact hf_end hz_L_in o1 (fun x y z q hl => o2 x y z hl.1.1 q hl)
theorem hq_hollows {f bi : Nat → Int32} {s : Nat} (h : hs_R f bi s) (hs : s < 6) (X Y : HF) (b : Bool) : (hf_hl f X).2 = (hm_sets bi s 0 Y b).2 := by
  unfold hf_hl hm_sets
  have lo : ∀ j, j < 144 → hb_lo 12 (hx_it (fun i F => upd F i (4095 &&& (f i ^^^ (-1)))) 144 X.1 j) := fun j hj => by
    rw [hz_cpy_at (fun i => 4095 &&& (f i ^^^ (-1))) X.1 144, if_pos hj]
    exact hb_lo_and (fun i h1 h2 => by rw [hb_4095 h2, decide_eq_false (by omega)])
  have LA : ∀ x y z, hz_L (hx_it (fun i F => upd F i (4095 &&& (f i ^^^ (-1)))) 144 X.1) x y z ↔ hz_A bi s 0 x y z := by
    intro x y z
    rw [hz_A0 h hs]
    unfold hz_L
    have e : x < 12 ∧ y < 12 ∧ z < 12 → (bt (hx_it (fun i F => upd F i (4095 &&& (f i ^^^ (-1)))) 144 X.1 (x * 12 + y)) z = true ↔ bt (f (x * 12 + y)) z = false) := by
      intro r
      rw [hz_cpy_at (fun i => 4095 &&& (f i ^^^ (-1))) X.1 144, if_pos (by omega), b_and, b_xor, b_m1 z (by omega), hb_4095 (by omega), decide_eq_true r.2.2]
      cases bt (f (x * 12 + y)) z <;> decide
    exact ⟨fun q => ⟨q.1, (e q.1).mp q.2⟩, fun q => ⟨q.1, (e q.1).mpr q.2⟩⟩
  have LAe : hz_L (hx_it (fun i F => upd F i (4095 &&& (f i ^^^ (-1)))) 144 X.1) = hz_A bi s 0 := by
    funext x y z
    exact propext (LA x y z)
  obtain ⟨d1, d2⟩ := hf_db_at (tk := X.2.1) (en := X.2.2) lo
  rw [LAe] at d1
  refine hz_J_all (B := hzR (hz_A bi s 0) hz_bd) (fun x y z _ q => ⟨rfl, q.back⟩) (fun x y z qa _ q => .base q qa) (fun _ _ _ _ _ _ q1 q2 q3 => q1.step q2 q3) ⟨fun x y z => ?_, rfl, d2, fun x y z x' y' z' q => absurd q (hz_seen0 _ _ _ _)⟩
  rw [d1 x y z]
  exact ⟨fun q => ⟨q.1, q.2, hz_seen0 _ _ _ _⟩, fun q => ⟨q.1, q.2.1⟩⟩
