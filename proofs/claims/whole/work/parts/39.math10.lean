theorem hz_bm32 {a : Int} (h1 : -1000 ≤ a) (h2 : a ≤ 1000) : a.bmod (2 ^ 32) = a := by
  rw [Int.bmod_def]
  omega
theorem hz_addI {c : Nat} {w : Int32} (hc : c < 100) (h1 : -100 ≤ w.toInt) (h2 : w.toInt ≤ 100) : (nI c + w).toInt = c + w.toInt := by
  rw [Int32.toInt_add, nI_toInt (by omega), hz_bm32 (by omega) (by omega)]
theorem hz_subI {c : Nat} {w : Int32} (hc : c < 100) (h1 : -100 ≤ w.toInt) (h2 : w.toInt ≤ 100) : (nI c - w).toInt = c - w.toInt := by
  rw [Int32.toInt_sub, nI_toInt (by omega), hz_bm32 (by omega) (by omega)]
theorem hz_negI {l : Nat} (hl : l < 100) : (-(nI l)).toInt = -(l : Int) := by
  have : -(nI l) = nI 0 - nI l := by rw [nI_0, Int32.zero_sub]
  rw [this, pk_sub_toInt (by decide) (by omega)]
  omega
theorem hy_shd_in {c : Nat} {w : Int32} (hc : c < 12) (h1 : 0 ≤ (c : Int) + w.toInt) (h2 : (c : Int) + w.toInt < 12) : hy_shd (nI c) w = nI ((c : Int) + w.toInt).toNat := by
  unfold hy_shd
  have e := hz_addI (c := c) (w := w) (by omega) (by omega) (by omega)
  have n1 : ¬ w ≤ -12 := by rw [Int32.le_iff_toInt_le, show (-12 : Int32).toInt = -12 from rfl]; omega
  have n2 : ¬ 12 ≤ w := by rw [Int32.le_iff_toInt_le, show (12 : Int32).toInt = 12 from rfl]; omega
  rw [if_neg n1, if_neg n2, if_pos ((hx_in12 _).mpr (by rw [e]; omega))]
  apply Int32.toInt_inj.mp
  rw [e, nI_toInt (by omega)]
  omega
theorem hy_shd_out {c : Nat} {w : Int32} (hc : c < 12) (h : ¬ (0 ≤ (c : Int) + w.toInt ∧ (c : Int) + w.toInt < 12)) : hy_shd (nI c) w = -1 := by
  unfold hy_shd
  by_cases n1 : w ≤ -12
  · rw [if_pos n1]
  · rw [if_neg n1]
    by_cases n2 : 12 ≤ w
    · rw [if_pos n2]
    · rw [if_neg n2]
      rw [Int32.le_iff_toInt_le, show (-12 : Int32).toInt = -12 from rfl] at n1
      rw [Int32.le_iff_toInt_le, show (12 : Int32).toInt = 12 from rfl] at n2
      have e := hz_addI (c := c) (w := w) (by omega) (by omega) (by omega)
      rw [if_neg (fun q => h (by have := (hx_in12 _).mp q; rw [e] at this; exact this))]
theorem hy_shd_neg {c : Nat} {w : Int32} (hc : c < 12) : hy_shd (nI c) w < 0 ↔ ¬ (0 ≤ (c : Int) + w.toInt ∧ (c : Int) + w.toInt < 12) := by
  by_cases h : 0 ≤ (c : Int) + w.toInt ∧ (c : Int) + w.toInt < 12
  · rw [hy_shd_in hc h.1 h.2]
    exact ⟨fun q => absurd q (nI_pos (by omega)), fun q => absurd h q⟩
  · rw [hy_shd_out hc h]
    exact ⟨fun _ => h, fun _ => by decide⟩
theorem hn_sum_pos {f : Nat → Nat} {n : Nat} : 0 < hn_sum f n ↔ ∃ i, i < n ∧ 0 < f i := by
  induction n with
  | zero => exact ⟨fun q => (by cases q), fun ⟨i, hi, _⟩ => by omega⟩
  | succ n ih =>
    show 0 < hn_sum f n + f n ↔ _
    constructor
    · intro q
      by_cases h1 : 0 < hn_sum f n
      · obtain ⟨i, hi, hf⟩ := ih.mp h1; exact ⟨i, by omega, hf⟩
      · exact ⟨n, by omega, by omega⟩
    · rintro ⟨i, hi, hf⟩
      by_cases h1 : i = n
      · subst h1; omega
      · have := ih.mpr ⟨i, by omega, hf⟩; omega
theorem hz_layer_pos {f bi : Nat → Int32} {s : Nat} (h : hs_R f bi s) (hs : s < 6) {ax : Int32} (hax : ax = 0 ∨ ax = 1 ∨ ax = 2) {k : Nat} (hk : k < 12) : 0 < hx_layer f ax (nI k) ↔ ∃ u v : Nat, u < 12 ∧ v < 12 ∧ hz_h f ax k u v = true := by
  rw [hq_layer h hs hax]
  unfold hy_at
  rw [hm_it_sum0 (N := 144) (g := fun j => hb_n (hz_h f ax k (j / 12 : Nat) (j % 12 : Nat))) (fun j n hj => by rw [hz_hb h hs, hx_s_n, nI_toInt (by omega), nI_toInt (by omega), nI_toInt (by omega)])]
  have le := hn_sum_le (f := fun j => hb_n (hz_h f ax k (j / 12 : Nat) (j % 12 : Nat))) (c := 1) (fun i => by cases hz_h f ax k (i / 12 : Nat) (i % 12 : Nat) <;> decide) 144
  rw [show (0 : Int32) = nI 0 from rfl, nI_ltI (by decide) (by omega), hn_sum_pos]
  constructor
  · rintro ⟨i, hi, hf⟩
    refine ⟨i / 12, i % 12, by omega, by omega, ?_⟩
    cases q : hz_h f ax k (i / 12 : Nat) (i % 12 : Nat) with
    | true => rfl
    | false => rw [q] at hf; exact absurd hf (by decide)
  · rintro ⟨u, v, hu, hv, hq⟩
    refine ⟨u * 12 + v, by omega, ?_⟩
    rw [show (u * 12 + v) / 12 = u by omega, show (u * 12 + v) % 12 = v by omega, hq]
    decide
theorem hx_lst_spec (P : Nat → Bool) : ∀ n, n ≤ 12 → (hx_lst P n = 12 ∧ ∀ i, i < n → P i = false) ∨ (hx_lst P n < n ∧ P (hx_lst P n) = true ∧ ∀ i, hx_lst P n < i → i < n → P i = false) := by
  intro n
  induction n with
  | zero => intro _; exact Or.inl ⟨rfl, fun i hi => by omega⟩
  | succ n ih =>
    intro hn
    cases hp : P n with
    | true =>
      have e : hx_lst P (n + 1) = n := by show (if P n then n else hx_lst P n) = n; rw [hp]; rfl
      rw [e]
      exact Or.inr ⟨by omega, hp, fun i h1 h2 => by omega⟩
    | false =>
      have e : hx_lst P (n + 1) = hx_lst P n := by show (if P n then n else hx_lst P n) = _; rw [hp]; rfl
      rw [e]
      rcases ih (by omega) with ⟨h1, h2⟩ | ⟨h1, h2, h3⟩
      · refine Or.inl ⟨h1, fun i hi => ?_⟩
        by_cases hin : i = n
        · subst hin; exact hp
        · exact h2 i (by omega)
      · refine Or.inr ⟨by omega, h2, fun i ha hb => ?_⟩
        by_cases hin : i = n
        · subst hin; exact hp
        · exact h3 i ha (by omega)
theorem hz_wl {f bi : Nat → Int32} {s : Nat} (h : hs_R f bi s) (hs : s < 6) {ax : Int32} (hax : ax = 0 ∨ ax = 1 ∨ ax = 2) (d : Int32) : hx_wl f ax d = true ↔ ∃ k u v : Nat, k < 12 ∧ u < 12 ∧ v < 12 ∧ hz_h f ax k u v = true ∧ ¬ (0 ≤ (k : Int) + d.toInt ∧ (k : Int) + d.toInt < 12) := by
  obtain ⟨P, hPd⟩ : ∃ P : Nat → Bool, P = fun w => decide (0 < hx_layer f ax (nI w)) := ⟨_, rfl⟩
  have hP : ∀ k, k < 12 → (P k = true ↔ ∃ u v : Nat, u < 12 ∧ v < 12 ∧ hz_h f ax k u v = true) := fun k hk => by rw [hPd, decide_eq_true_eq]; exact hz_layer_pos h hs hax hk
  have eL : hx_least f ax = nI (hx_fst P 12 0) := by rw [hPd]; rfl
  have eG : hx_great f ax = nI (hx_lst P 12) := by rw [hPd]; rfl
  obtain ⟨a1, a2, a3, a4⟩ := hx_fst_spec P 12 0
  have b := hx_lst_spec P 12 (Nat.le_refl _)
  unfold hx_wl
  rw [eL, eG]
  generalize hx_fst P 12 0 = l at a1 a2 a3 a4
  generalize hx_lst P 12 = g at b
  have hg : g ≤ 12 := by rcases b with ⟨b1, -⟩ | ⟨b1, -⟩ <;> omega
  rw [Bool.and_eq_true, Bool.or_eq_true, Bool.not_eq_true', decide_eq_false_iff_not, decide_eq_true_eq, decide_eq_true_eq, Int32.lt_iff_toInt_lt, Int32.lt_iff_toInt_lt, hz_negI (by omega), show ((11 : Int32) - nI g).toInt = (11 : Int) - g from pk_sub_toInt (a := 11) (by decide) (by omega), show (nI l = 12 ↔ l = 12) from nI_eq (b := 12) (by omega) (by decide)]
  constructor
  · rintro ⟨h1, h2⟩
    have hl : l < 12 := by omega
    have pl := a4 (by omega)
    rcases b with ⟨b1, b2⟩ | ⟨b1, b2, b3⟩
    · rw [b2 l hl] at pl; cases pl
    · rcases h2 with h2 | h2
      · obtain ⟨u, v, hu, hv, q⟩ := (hP l hl).mp pl
        exact ⟨l, u, v, hl, hu, hv, q, by omega⟩
      · obtain ⟨u, v, hu, hv, q⟩ := (hP g b1).mp b2
        exact ⟨g, u, v, b1, hu, hv, q, by omega⟩
  · rintro ⟨k, u, v, hk, hu, hv, q, ho⟩
    have pk := (hP k hk).mpr ⟨u, v, hu, hv, q⟩
    have hl : l ≤ k := by
      apply Nat.le_of_not_lt
      intro r
      rw [a3 k (by omega) r] at pk; cases pk
    rcases b with ⟨b1, b2⟩ | ⟨b1, b2, b3⟩
    · rw [b2 k hk] at pk; cases pk
    · have hkg : k ≤ g := by
        apply Nat.le_of_not_lt
        intro r
        rw [b3 k r hk] at pk; cases pk
      exact ⟨by omega, by omega⟩
theorem hz_D_foldZ {bi : Nat → Int32} {P : (Nat → Int32) → Nat → Bool} {A B C : Nat → Nat} {Z : Nat → Int32} {N : Nat} (hP : ∀ b M k, hz_D bi b M → P b k = P bi k) (hA : ∀ k, k < N → P bi k = true → A k < 12 ∧ B k < 12 ∧ C k < 12 ∧ Z k = nI (C k)) : ∀ n, n ≤ N → hz_D bi (hx_it (fun k b => if P b k = true then hy_put b (A k) (B k) (Z k) else b) n (hy_clr bi)) (fun i z => ∃ k, k < n ∧ P bi k = true ∧ i = A k * 12 + B k ∧ z = C k) := by
  intro n
  induction n with
  | zero =>
    intro _
    exact hz_D_mono (hz_D_clr bi) (fun i z _ _ => ⟨False.elim, fun ⟨k, q, _⟩ => by omega⟩)
  | succ n ih =>
    intro hn
    have hI := ih (by omega)
    show hz_D bi (if P (hx_it (fun k b => if P b k = true then hy_put b (A k) (B k) (Z k) else b) n (hy_clr bi)) n = true then hy_put _ (A n) (B n) (Z n) else _) _
    rw [hP _ _ n hI]
    by_cases hp : P bi n = true
    · rw [if_pos hp]
      obtain ⟨a1, a2, a3, a4⟩ := hA n (by omega) hp
      rw [a4]
      refine hz_D_mono (hz_D_put hI a1 a2 a3) (fun i z _ _ => ⟨?_, ?_⟩)
      · rintro (⟨k, h1, h2⟩ | h1)
        · exact ⟨k, by omega, h2⟩
        · exact ⟨n, by omega, hp, h1⟩
      · rintro ⟨k, h1, h2, h3⟩
        by_cases hk : k = n
        · subst hk; exact Or.inr h3
        · exact Or.inl ⟨k, by omega, h2, h3⟩
    · rw [if_neg hp]
      refine hz_D_mono hI (fun i z _ _ => ⟨?_, ?_⟩)
      · rintro ⟨k, h1, h2⟩; exact ⟨k, by omega, h2⟩
      · rintro ⟨k, h1, h2, h3⟩
        by_cases hk : k = n
        · subst hk; exact absurd h2 hp
        · exact ⟨k, by omega, h2, h3⟩
theorem hz_off {bi b : Nat → Int32} (h : ∀ j, j < 864 ∨ 1008 ≤ j → b j = bi j) : hz_D bi b (fun i z => bt (b (864 + i)) z = true) := ⟨h, fun _ _ _ _ => Iff.rfl⟩
theorem hy_shd_cl (c : Nat) (w : Int32) (hc : c < 12) : (hy_shd (nI c) w).toNatClampNeg < 12 := by
  by_cases h : 0 ≤ (c : Int) + w.toInt ∧ (c : Int) + w.toInt < 12
  · rw [hy_shd_in hc h.1 h.2, nI_clamp (by omega)]; omega
  · rw [hy_shd_out hc h]; decide
theorem hy_shf_off (bi : Nat → Int32) (s : Nat) (dx dy dz : Int32) : ∀ n, n ≤ 1728 → ∀ j, j < 864 ∨ 1008 ≤ j → hy_shf bi s dx dy dz n j = bi j := by
  intro n
  induction n with
  | zero => intro _ j hj; exact (hz_D_clr bi).1 j hj
  | succ n ih =>
    intro hn j hj
    rw [hy_shf_s]
    split
    · unfold hy_put
      have c1 := hy_shd_cl (n / 144) dx (by omega)
      have c2 := hy_shd_cl (n / 12 % 12) dy (by omega)
      rw [pk_un (by omega)]
      exact ih (by omega) j hj
    · exact ih (by omega) j hj
theorem hy_sbad_iff {f bi : Nat → Int32} {s : Nat} (h : hs_R f bi s) (hs : s < 6) (dx dy dz : Int32) {k : Nat} (hk : k < 1728) : hy_sbad bi s dx dy dz k = true ↔ hz_c f (k / 144 : Nat) ((k / 12) % 12 : Nat) (k % 12 : Nat) = true ∧ (¬ (0 ≤ ((k / 144 : Nat) : Int) + dx.toInt ∧ ((k / 144 : Nat) : Int) + dx.toInt < 12) ∨ ¬ (0 ≤ (((k / 12) % 12 : Nat) : Int) + dy.toInt ∧ (((k / 12) % 12 : Nat) : Int) + dy.toInt < 12) ∨ ¬ (0 ≤ ((k % 12 : Nat) : Int) + dz.toInt ∧ ((k % 12 : Nat) : Int) + dz.toInt < 12)) := by
  unfold hy_sbad
  rw [hz_D_has (hz_off (hy_shf_off bi s dx dy dz k (by omega))) hs, hz_has h hs, nI_toInt (by omega), nI_toInt (by omega), nI_toInt (by omega), Bool.and_eq_true, Bool.or_eq_true, Bool.or_eq_true, decide_eq_true_eq, decide_eq_true_eq, decide_eq_true_eq, hy_shd_neg (by omega), hy_shd_neg (by omega), hy_shd_neg (by omega)]
def hz_ok (f : Nat → Int32) (dx dy dz : Int32) : Prop := ∀ x y z : Nat, x < 12 → y < 12 → z < 12 → hz_c f x y z = true → (0 ≤ (x : Int) + dx.toInt ∧ (x : Int) + dx.toInt < 12) ∧ (0 ≤ (y : Int) + dy.toInt ∧ (y : Int) + dy.toInt < 12) ∧ (0 ≤ (z : Int) + dz.toInt ∧ (z : Int) + dz.toInt < 12)
theorem hz_ok_ref {f bi : Nat → Int32} {s : Nat} (h : hs_R f bi s) (hs : s < 6) (dx dy dz : Int32) : hz_ok f dx dy dz ↔ ∀ k, k < 1728 → hy_sbad bi s dx dy dz k = false := by
  constructor
  · intro q k hk
    cases e : hy_sbad bi s dx dy dz k with
    | false => rfl
    | true =>
      obtain ⟨e1, e2⟩ := (hy_sbad_iff h hs dx dy dz hk).mp e
      have := q (k / 144) ((k / 12) % 12) (k % 12) (by omega) (by omega) (by omega) e1
      omega
  · intro q x y z hx hy hz hc
    apply Classical.byContradiction
    intro r
    have e := q (x * 144 + y * 12 + z) (by omega)
    rw [Bool.eq_false_iff] at e
    apply e
    rw [hy_sbad_iff h hs dx dy dz (by omega), show (x * 144 + y * 12 + z) / 144 = x by omega, show ((x * 144 + y * 12 + z) / 12) % 12 = y by omega, show (x * 144 + y * 12 + z) % 12 = z by omega]
    exact ⟨hc, by omega⟩
theorem hz_ok_cls {f bi : Nat → Int32} {s : Nat} (h : hs_R f bi s) (hs : s < 6) (dx dy dz : Int32) : hz_ok f dx dy dz ↔ (!(hx_wl f 0 dx) && (!(hx_wl f 1 dy) && !(hx_wl f 2 dz))) = true := by
  rw [Bool.and_eq_true, Bool.and_eq_true, Bool.not_eq_true', Bool.not_eq_true', Bool.not_eq_true', Bool.eq_false_iff, Bool.eq_false_iff, Bool.eq_false_iff, Ne, Ne, Ne, hz_wl h hs (Or.inl rfl), hz_wl h hs (Or.inr (Or.inl rfl)), hz_wl h hs (Or.inr (Or.inr rfl))]
  simp only [hz_h0', hz_h1', hz_h2']
  constructor
  · intro q
    refine ⟨?_, ?_, ?_⟩
    · rintro ⟨k, u, v, hk, hu, hv, e, r⟩; exact r (q k u v hk hu hv e).1
    · rintro ⟨k, u, v, hk, hu, hv, e, r⟩; exact r (q u k v hu hk hv e).2.1
    · rintro ⟨k, u, v, hk, hu, hv, e, r⟩; exact r (q u v k hu hv hk e).2.2
  · rintro ⟨q1, q2, q3⟩ x y z hx hy hz hc
    refine ⟨Classical.byContradiction fun r => q1 ⟨x, y, z, hx, hy, hz, hc, r⟩, Classical.byContradiction fun r => q2 ⟨y, x, z, hy, hx, hz, hc, r⟩, Classical.byContradiction fun r => q3 ⟨z, x, y, hz, hx, hy, hc, r⟩⟩
theorem hz_c_pos {f : Nat → Int32} {x y z : Int} (h : hz_c f x y z = true) : (0 ≤ x ∧ x < 12) ∧ (0 ≤ y ∧ y < 12) ∧ (0 ≤ z ∧ z < 12) := by
  apply Classical.byContradiction
  intro q
  rw [hz_c_out (by omega)] at h
  cases h
theorem hz_ok_int {f : Nat → Int32} {dx dy dz : Int32} (q : hz_ok f dx dy dz) {x y z : Int} (h : hz_c f x y z = true) : (0 ≤ x + dx.toInt ∧ x + dx.toInt < 12) ∧ (0 ≤ y + dy.toInt ∧ y + dy.toInt < 12) ∧ (0 ≤ z + dz.toInt ∧ z + dz.toInt < 12) := by
  obtain ⟨h1, h2, h3⟩ := hz_c_pos h
  have e1 : ((x.toNat : Nat) : Int) = x := by omega
  have e2 : ((y.toNat : Nat) : Int) = y := by omega
  have e3 : ((z.toNat : Nat) : Int) = z := by omega
  have := q x.toNat y.toNat z.toNat (by omega) (by omega) (by omega) (by rw [e1, e2, e3]; exact h)
  rw [e1, e2, e3] at this
  exact this
theorem hz_sh0 {f bi : Nat → Int32} {s : Nat} (h : hs_R f bi s) (he : ∀ x y z : Int, hz_c f x y z = false) (dx dy dz : Int32) (x y : Nat) : hx_sh f dx dy dz x y = 0 := by
  have z0 : ∀ u v, hx_col f u v = 0 := fun u v => b_ext (fun i hi => by rw [hz_col h _ _ hi, he, b_0])
  unfold hx_sh
  rw [z0]
  split
  · obtain ⟨j, hj, e⟩ := pk_andE dz (m := 31) 5 (by decide)
    have e2 : dz &&& 31 = nI j &&& 31 := by rw [pk_andN (m := 31) (by omega) 5 (by decide), Nat.mod_eq_of_lt hj]; exact e
    rw [e2]
    exact b_ext (fun i hi => by rw [b_shl j (by omega) 0 hi, b_0, b_0, Bool.and_false])
  · obtain ⟨j, hj, e⟩ := pk_andE (-dz) (m := 31) 5 (by decide)
    have e2 : (-dz) &&& 31 = nI j &&& 31 := by rw [pk_andN (m := 31) (by omega) 5 (by decide), Nat.mod_eq_of_lt hj]; exact e
    rw [e2]
    exact b_ext (fun i hi => by rw [b_sshr j (by omega) 0 hi, b_0, b_0, b_0]; split <;> rfl)
theorem hz_sh {f bi : Nat → Int32} {s : Nat} (h : hs_R f bi s) {dx dy dz : Int32} (q : hz_ok f dx dy dz) {x y z : Nat} (hx : x < 12) (hy : y < 12) (hz : z < 32) : bt (hx_sh f dx dy dz x y) z = true ↔ hz_c f ((x : Int) - dx.toInt) ((y : Int) - dy.toInt) ((z : Int) - dz.toInt) = true := by
  by_cases he : ∀ x y z : Int, hz_c f x y z = false
  · rw [hz_sh0 h he, b_0, he]
  · have : ∃ a b c : Int, hz_c f a b c = true := by
      apply Classical.byContradiction
      intro r
      apply he
      intro a b c
      cases e : hz_c f a b c with
      | false => rfl
      | true => exact absurd ⟨a, b, c, e⟩ r
    obtain ⟨a, b, c, hc⟩ := this
    have p := hz_c_pos hc
    have r := hz_ok_int q hc
    have ex : (nI x - dx).toInt = (x : Int) - dx.toInt := hz_subI (by omega) (by omega) (by omega)
    have ey : (nI y - dy).toInt = (y : Int) - dy.toInt := hz_subI (by omega) (by omega) (by omega)
    unfold hx_sh
    by_cases h0 : 0 ≤ dz
    · rw [if_pos h0]
      rw [Int32.le_iff_toInt_le, show (0 : Int32).toInt = 0 from rfl] at h0
      have ed : dz = nI dz.toInt.toNat := Int32.toInt_inj.mp (by rw [nI_toInt (by omega)]; omega)
      have e31 : dz &&& 31 = nI dz.toInt.toNat &&& 31 := by rw [← ed]
      rw [e31, b_shl _ (by omega) _ hz, Bool.and_eq_true, decide_eq_true_eq, hz_col h _ _ (by omega), ex, ey]
      by_cases hle : dz.toInt.toNat ≤ z
      · rw [show ((z - dz.toInt.toNat : Nat) : Int) = (z : Int) - dz.toInt by omega]
        exact ⟨fun t => t.2, fun t => ⟨hle, t⟩⟩
      · exact ⟨fun t => absurd t.1 hle, fun t => by have := hz_c_pos t; omega⟩
    · rw [if_neg h0]
      rw [Int32.le_iff_toInt_le, show (0 : Int32).toInt = 0 from rfl] at h0
      have ed : -dz = nI (-dz.toInt).toNat := Int32.toInt_inj.mp (by rw [nI_toInt (by omega), Int32.toInt_neg, hz_bm32 (by omega) (by omega)]; omega)
      have e31 : (-dz) &&& 31 = nI (-dz.toInt).toNat &&& 31 := by rw [← ed]
      rw [e31, b_sshr _ (by omega) _ hz]
      split
      · rw [hz_col h _ _ (by omega), ex, ey, show (((-dz.toInt).toNat + z : Nat) : Int) = (z : Int) - dz.toInt by omega]
      · rw [hz_col_lo h _ _ 31 (by decide) (by decide)]
        exact ⟨fun t => (by cases t), fun t => by have := hz_c_pos t; omega⟩
theorem hq_shift {f bi : Nat → Int32} {s : Nat} (h : hs_R f bi s) (hs : s < 6) {dx dy dz : Int32} (q : hz_ok f dx dy dz) (F : Nat → Int32) {b : Nat → Int32} (hb : b = hy_shf bi s dx dy dz 1728) : (∀ j, j < 864 ∨ 1008 ≤ j → b j = bi j) ∧ ∀ i, i < 144 → hx_fill (hx_sh f dx dy dz) F i = b (864 + i) ∧ hb_lo 12 (hx_fill (hx_sh f dx dy dz) F i) := by
  subst hb
  have P0 : ∀ k, k < 1728 → hy_has bi s (nI (k / 144)) (nI ((k / 12) % 12)) (nI (k % 12)) = hz_c f (k / 144 : Nat) ((k / 12) % 12 : Nat) (k % 12 : Nat) := fun k hk => by rw [hz_has h hs, nI_toInt (by omega), nI_toInt (by omega), nI_toInt (by omega)]
  have D0 := hz_D_foldZ (bi := bi) (P := fun b k => hy_has b s (nI (k / 144)) (nI ((k / 12) % 12)) (nI (k % 12))) (A := fun k => (hy_shd (nI (k / 144)) dx).toNatClampNeg) (B := fun k => (hy_shd (nI ((k / 12) % 12)) dy).toNatClampNeg) (C := fun k => (hy_shd (nI (k % 12)) dz).toNatClampNeg) (Z := fun k => hy_shd (nI (k % 12)) dz) (N := 1728) (fun b M k hD => hz_D_has hD hs _ _ _) (fun k hk hp => by
    rw [P0 k hk] at hp
    have r := hz_ok_int q hp
    refine ⟨hy_shd_cl _ _ (by omega), hy_shd_cl _ _ (by omega), hy_shd_cl _ _ (by omega), ?_⟩
    rw [hy_shd_in (by omega) r.2.2.1 r.2.2.2, nI_clamp (by omega)]) 1728 (Nat.le_refl _)
  have D := hz_D_mono (N := fun i z => hz_c f (((i / 12 : Nat) : Int) - dx.toInt) (((i % 12 : Nat) : Int) - dy.toInt) ((z : Int) - dz.toInt) = true) D0 (fun i z hi hz => ⟨?_, ?_⟩)
  · refine ⟨D.1, hz_D_eq D (fun i hi z hz => ?_) (fun i z _ _ t => ?_)⟩
    · rw [hx_fill_at _ _ hi]
      exact hz_sh h q (by omega) (by omega) hz
    · have := hz_ok_int q t
      omega
  · rintro ⟨k, hk, hp, e1, e2⟩
    rw [P0 k hk] at hp
    have r := hz_ok_int q hp
    rw [hy_shd_in (by omega) r.1.1 r.1.2, hy_shd_in (by omega) r.2.1.1 r.2.1.2, nI_clamp (by omega), nI_clamp (by omega)] at e1
    rw [hy_shd_in (by omega) r.2.2.1 r.2.2.2, nI_clamp (by omega)] at e2
    rw [show ((i / 12 : Nat) : Int) - dx.toInt = ((k / 144 : Nat) : Int) by omega, show ((i % 12 : Nat) : Int) - dy.toInt = (((k / 12) % 12 : Nat) : Int) by omega, show (z : Int) - dz.toInt = ((k % 12 : Nat) : Int) by omega]
    exact hp
  · intro t
    have p := hz_c_pos t
    obtain ⟨a, ha⟩ : ∃ a : Nat, (a : Int) = ((i / 12 : Nat) : Int) - dx.toInt := ⟨(((i / 12 : Nat) : Int) - dx.toInt).toNat, by omega⟩
    obtain ⟨b, hb⟩ : ∃ b : Nat, (b : Int) = ((i % 12 : Nat) : Int) - dy.toInt := ⟨(((i % 12 : Nat) : Int) - dy.toInt).toNat, by omega⟩
    obtain ⟨c, hc⟩ : ∃ c : Nat, (c : Int) = (z : Int) - dz.toInt := ⟨((z : Int) - dz.toInt).toNat, by omega⟩
    rw [← ha, ← hb, ← hc] at t
    have r := hz_ok_int q t
    have k1 : (a * 144 + b * 12 + c) / 144 = a := by omega
    have k2 : ((a * 144 + b * 12 + c) / 12) % 12 = b := by omega
    have k3 : (a * 144 + b * 12 + c) % 12 = c := by omega
    refine ⟨a * 144 + b * 12 + c, by omega, ?_, ?_, ?_⟩
    · rw [P0 _ (by omega), k1, k2, k3]; exact t
    · rw [k1, k2, hy_shd_in (by omega) r.1.1 r.1.2, hy_shd_in (by omega) r.2.1.1 r.2.1.2, nI_clamp (by omega), nI_clamp (by omega)]
      omega
    · rw [k3, hy_shd_in (by omega) r.2.2.1 r.2.2.2, nI_clamp (by omega)]
      omega
