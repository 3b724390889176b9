theorem hj_bc4v : ∀ n, n < 4 → hj_bc (nI n) = nI (hb_n (n.testBit 0) + hb_n (n.testBit 1)) := by decide +kernel
theorem hx_pair_n {f bi : Nat → Int32} {s : Nat} (h : hs_R f bi s) (x y : Int32) {c : Nat} (hc : c < 13) : hx_pair f x y (nI c) = nI (hb_n (hz_c f x.toInt y.toInt ((c : Int) - 1)) + hb_n (hz_c f x.toInt y.toInt c)) := by
  unfold hx_pair
  have b3 : ∀ i, i < 32 → bt 3 i = decide (i < 2) := by decide +kernel
  have L : hb_lo 2 (((hx_col f x y <<< ((1 : Int32) &&& 31)) >>> (nI c &&& 31)) &&& 3) := fun i h1 h2 => by rw [b_and, b3 i h2, decide_eq_false (by omega), Bool.and_false]
  obtain ⟨n, hn, e⟩ := hb_of 2 (by decide) L
  have t0 : n.testBit 0 = hz_c f x.toInt y.toInt ((c : Int) - 1) := by
    rw [← hb_nI (show 0 < 32 by decide), ← e, b_and, b3 0 (by decide), b_sshr c (by omega) _ (by decide), if_pos (by omega), Nat.add_zero, hz_bm h (by omega)]
    simp
  have t1 : n.testBit 1 = hz_c f x.toInt y.toInt c := by
    rw [← hb_nI (show 1 < 32 by decide), ← e, b_and, b3 1 (by decide), b_sshr c (by omega) _ (by decide), if_pos (by omega), hz_bm h (by omega)]
    simp
  rw [e, hj_bc4v n hn, t0, t1]
theorem hq_ins {f bi : Nat → Int32} {s : Nat} (h : hs_R f bi s) (hs : s < 6) (x y : Int32) {c : Nat} (hc : c < 13) : ∃ m : Nat, m ≤ 8 ∧ hx_ar f x y (nI c) = nI m ∧ hy_ins bi s x y (nI c) = nI m := by
  have le : ∀ b, hb_n b ≤ 1 := by intro b; cases b <;> decide
  have e1 : hx_ar f x y (nI c) = nI (hb_n (hz_c f (x - 1).toInt (y - 1).toInt ((c : Int) - 1)) + hb_n (hz_c f (x - 1).toInt (y - 1).toInt c) + hb_n (hz_c f (x - 1).toInt y.toInt ((c : Int) - 1)) + hb_n (hz_c f (x - 1).toInt y.toInt c) + hb_n (hz_c f x.toInt (y - 1).toInt ((c : Int) - 1)) + hb_n (hz_c f x.toInt (y - 1).toInt c) + hb_n (hz_c f x.toInt y.toInt ((c : Int) - 1)) + hb_n (hz_c f x.toInt y.toInt c)) := by
    unfold hx_ar
    rw [hx_pair_n h _ _ hc, hx_pair_n h _ _ hc, hx_pair_n h _ _ hc, hx_pair_n h _ _ hc, nI_add, nI_add, nI_add]
    refine congrArg nI ?_
    omega
  refine ⟨_, ?_, e1, ?_⟩
  · have := le (hz_c f (x - 1).toInt (y - 1).toInt ((c : Int) - 1)); have := le (hz_c f (x - 1).toInt (y - 1).toInt c); have := le (hz_c f (x - 1).toInt y.toInt ((c : Int) - 1)); have := le (hz_c f (x - 1).toInt y.toInt c); have := le (hz_c f x.toInt (y - 1).toInt ((c : Int) - 1)); have := le (hz_c f x.toInt (y - 1).toInt c); have := le (hz_c f x.toInt y.toInt ((c : Int) - 1)); have := le (hz_c f x.toInt y.toInt c)
    omega
  · unfold hy_ins
    simp only [hz_has h hs, hx_s_n, hz_dm c (by omega), nI_toInt (show c < 2 ^ 31 by omega), Int32.zero_add, nI_add]
def hz_D (bi b : Nat → Int32) (M : Nat → Nat → Prop) : Prop := (∀ j, j < 864 ∨ 1008 ≤ j → b j = bi j) ∧ ∀ i, i < 144 → ∀ z, z < 32 → (bt (b (864 + i)) z = true ↔ M i z)
theorem hz_D_mono {bi b : Nat → Int32} {M N : Nat → Nat → Prop} (h : hz_D bi b M) (e : ∀ i z, i < 144 → z < 32 → (M i z ↔ N i z)) : hz_D bi b N := ⟨h.1, fun i hi z hz => (h.2 i hi z hz).trans (e i z hi hz)⟩
theorem hy_clr_at (bi : Nat → Int32) (n j : Nat) : hx_it (fun k b => upd b (864 + k) 0) n bi j = if 864 ≤ j ∧ j < 864 + n then 0 else bi j := by
  induction n with
  | zero => rw [if_neg (by omega)]; rfl
  | succ n ih =>
    show upd (hx_it (fun k b => upd b (864 + k) 0) n bi) (864 + n) 0 j = _
    by_cases hj : j = 864 + n
    · subst hj; rw [pk_us, if_pos (by omega)]
    · rw [pk_un hj, ih]
      by_cases h1 : 864 ≤ j ∧ j < 864 + n
      · rw [if_pos h1, if_pos (by omega)]
      · rw [if_neg h1, if_neg (by omega)]
theorem hz_D_clr (bi : Nat → Int32) : hz_D bi (hy_clr bi) (fun _ _ => False) := by
  unfold hy_clr
  refine ⟨fun j hj => ?_, fun i hi z hz => ?_⟩
  · rw [hy_clr_at, if_neg (by omega)]
  · rw [hy_clr_at, if_pos (by omega), b_0]
    simp
theorem hz_D_put {bi b : Nat → Int32} {M : Nat → Nat → Prop} (h : hz_D bi b M) {x y c : Nat} (hx : x < 12) (hy : y < 12) (hc : c < 12) : hz_D bi (hy_put b x y (nI c)) (fun i z => M i z ∨ (i = x * 12 + y ∧ z = c)) := by
  unfold hy_put
  refine ⟨fun j hj => ?_, fun i hi z hz => ?_⟩
  · rw [pk_un (by omega)]; exact h.1 j hj
  · by_cases hj : i = x * 12 + y
    · subst hj
      rw [show 864 + (x * 12 + y) = 864 + 12 * x + y by omega, pk_us, b_or, hb_pow (by omega) hz, Bool.or_eq_true, decide_eq_true_eq, show 864 + 12 * x + y = 864 + (x * 12 + y) by omega, h.2 _ hi z hz]
      simp
    · rw [pk_un (by omega), h.2 i hi z hz]
      constructor
      · exact Or.inl
      · rintro (q | q)
        · exact q
        · exact absurd q.1 hj
theorem hz_D_has {bi b : Nat → Int32} {M : Nat → Nat → Prop} (h : hz_D bi b M) {s : Nat} (hs : s < 6) (x y z : Int32) : hy_has b s x y z = hy_has bi s x y z := by
  unfold hy_has
  by_cases hx : hx_in x 12 = true
  · by_cases hy : hx_in y 12 = true
    · obtain ⟨a, ha, rfl⟩ := hx_in_nat (n := 12) (by decide) hx
      obtain ⟨c, hc, rfl⟩ := hx_in_nat (n := 12) (by decide) hy
      rw [hy_ixn, nI_clamp (by omega), h.1 _ (by omega)]
    · rw [Bool.eq_false_iff.mpr hy, Bool.false_and, Bool.false_and]
  · rw [Bool.eq_false_iff.mpr hx, Bool.false_and, Bool.false_and]
theorem hz_D_fold {bi : Nat → Int32} {P : (Nat → Int32) → Nat → Bool} {A B C : Nat → Nat} {N : Nat} (hP : ∀ b M k, hz_D bi b M → P b k = P bi k) (hA : ∀ k, k < N → P bi k = true → A k < 12 ∧ B k < 12 ∧ C k < 12) : ∀ n, n ≤ N → hz_D bi (hx_it (fun k b => if P b k = true then hy_put b (A k) (B k) (nI (C k)) else b) n (hy_clr bi)) (fun i z => ∃ k, k < n ∧ P bi k = true ∧ i = A k * 12 + B k ∧ z = C k) := by
  intro n
  induction n with
  | zero =>
    intro _
    exact hz_D_mono (hz_D_clr bi) (fun i z _ _ => ⟨False.elim, fun ⟨k, q, _⟩ => by omega⟩)
  | succ n ih =>
    intro hn
    have hI := ih (by omega)
    show hz_D bi (if P (hx_it (fun k b => if P b k = true then hy_put b (A k) (B k) (nI (C k)) else b) n (hy_clr bi)) n = true then _ else _) _
    rw [hP _ _ n hI]
    by_cases hp : P bi n = true
    · rw [if_pos hp]
      obtain ⟨a1, a2, a3⟩ := hA n (by omega) hp
      refine hz_D_mono (hz_D_put hI a1 a2 a3) (fun i z _ _ => ⟨?_, ?_⟩)
      · rintro (⟨k, h1, h2⟩ | h1)
        · exact ⟨k, by omega, h2⟩
        · exact ⟨n, by omega, hp, h1⟩
      · rintro ⟨k, h1, h2, h3⟩
        by_cases hk : k = n
        · subst hk; exact Or.inr h3
        · exact Or.inl ⟨k, by omega, h2, h3⟩
    · rw [if_neg hp]
      refine hz_D_mono hI (fun i z _ _ => ⟨?_, ?_⟩)
      · rintro ⟨k, h1, h2⟩; exact ⟨k, by omega, h2⟩
      · rintro ⟨k, h1, h2, h3⟩
        by_cases hk : k = n
        · subst hk; exact absurd h2 hp
        · exact ⟨k, by omega, h2, h3⟩
theorem hz_D_grid {bi : Nat → Int32} {P : (Nat → Int32) → Nat → Bool} (hP : ∀ b M k, hz_D bi b M → P b k = P bi k) : hz_D bi (hx_it (fun k b => if P b k = true then hy_put b (k / 144) ((k / 12) % 12) (nI (k % 12)) else b) 1728 (hy_clr bi)) (fun i z => z < 12 ∧ P bi (i * 12 + z) = true) := by
  refine hz_D_mono (hz_D_fold (A := fun k => k / 144) (B := fun k => (k / 12) % 12) (C := fun k => k % 12) hP (N := 1728) (fun k hk _ => by omega) 1728 (Nat.le_refl _)) (fun i z hi hz => ⟨?_, ?_⟩)
  · rintro ⟨k, h1, h2, h3, h4⟩
    refine ⟨by omega, ?_⟩
    rw [show i * 12 + z = k by omega]
    exact h2
  · rintro ⟨h1, h2⟩
    exact ⟨i * 12 + z, by omega, h2, by omega, by omega⟩
theorem hz_D_eq {bi b F : Nat → Int32} {M : Nat → Nat → Prop} (h : hz_D bi b M) (hF : ∀ i, i < 144 → ∀ z, z < 32 → (bt (F i) z = true ↔ M i z)) (hM : ∀ i z, i < 144 → z < 32 → M i z → z < 12) : ∀ i, i < 144 → F i = b (864 + i) ∧ hb_lo 12 (F i) := by
  intro i hi
  refine ⟨b_ext (fun z hz => ?_), fun z h1 h2 => ?_⟩
  · have e1 := hF i hi z hz
    have e2 := h.2 i hi z hz
    exact Bool.eq_iff_iff.mpr (e1.trans e2.symm)
  · cases q : bt (F i) z with
    | false => rfl
    | true => have := hM i z hi h2 ((hF i hi z h2).mp q); omega
theorem hz_cell {f bi : Nat → Int32} {s : Nat} (h : hs_R f bi s) {i z : Nat} (hi : i < 144) (hz : z < 32) : bt (f i) z = hz_c f (i / 12 : Nat) (i % 12 : Nat) z := by
  by_cases h12 : z < 12
  · rw [hz_c_n (by omega) (by omega) h12, show i / 12 * 12 + i % 12 = i by omega]
  · rw [hz_c_out (by omega)]; exact (h i hi).2 z (by omega) hz
theorem hz_hasg {f bi : Nat → Int32} {s : Nat} (h : hs_R f bi s) (hs : s < 6) {i z : Nat} (hi : i < 144) (hz : z < 12) : hy_has bi s (nI ((i * 12 + z) / 144)) (nI (((i * 12 + z) / 12) % 12)) (nI ((i * 12 + z) % 12)) = bt (f i) z := by
  rw [hz_has h hs, nI_toInt (by omega), nI_toInt (by omega), nI_toInt (by omega), hz_cell h hi (by omega), show (i * 12 + z) / 144 = i / 12 by omega, show ((i * 12 + z) / 12) % 12 = i % 12 by omega, show (i * 12 + z) % 12 = z by omega]
theorem hx_jf_at (f g : Nat → Int32) (w : Int32) (F : Nat → Int32) : ∀ n j, hx_it (fun i F => upd F i (hx_jn (f i) (g i) w)) n F j = if j < n then hx_jn (f j) (g j) w else F j := by
  intro n
  induction n with
  | zero => intro j; rw [if_neg (by omega)]; rfl
  | succ n ih =>
    intro j
    show upd (hx_it (fun i F => upd F i (hx_jn (f i) (g i) w)) n F) n (hx_jn (f n) (g n) w) j = _
    by_cases hj : j = n
    · subst hj; rw [pk_us, if_pos (by omega)]
    · rw [pk_un hj, ih]
      by_cases h1 : j < n
      · rw [if_pos h1, if_pos (by omega)]
      · rw [if_neg h1, if_neg (by omega)]
theorem hx_jn_b {a b w : Int32} {z : Nat} (hz : z < 32) : bt (hx_jn a b w) z = hy_jc (bt a z) (bt b z) w := by
  unfold hx_jn hy_jc
  split
  · exact b_or _ _ _
  · split
    · exact b_and _ _ _
    · split
      · rw [b_and, b_xor, b_m1 z hz, Bool.xor_true]
      · exact b_xor _ _ _
theorem hy_jc_ff (w : Int32) : hy_jc false false w = false := by
  unfold hy_jc
  split
  · rfl
  · split
    · rfl
    · split <;> rfl
theorem hz_bits {X : Int32} {p : Nat → Bool} (lo : hb_lo 12 X) (e : ∀ z, z < 12 → bt X z = p z) {z : Nat} (hz : z < 32) : bt X z = true ↔ z < 12 ∧ p z = true := by
  by_cases h12 : z < 12
  · rw [e z h12]; exact ⟨fun q => ⟨h12, q⟩, fun q => q.2⟩
  · rw [lo z (by omega) hz]
    exact ⟨fun q => (by cases q), fun q => absurd q.1 h12⟩
theorem hq_join {f g bi : Nat → Int32} {s t : Nat} (h : hs_R f bi s) (k : hs_R g bi t) (hs : s < 6) (ht : t < 6) (w : Int32) (F : Nat → Int32) {b : Nat → Int32} (hb : b = hx_it (fun k b => if hy_jc (hy_has b s (nI (k / 144)) (nI ((k / 12) % 12)) (nI (k % 12))) (hy_has b t (nI (k / 144)) (nI ((k / 12) % 12)) (nI (k % 12))) w = true then hy_put b (k / 144) ((k / 12) % 12) (nI (k % 12)) else b) 1728 (hy_clr bi)) : (∀ j, j < 864 ∨ 1008 ≤ j → b j = bi j) ∧ ∀ i, i < 144 → hx_jf f g w F i = b (864 + i) ∧ hb_lo 12 (hx_jf f g w F i) := by
  subst hb
  have D := hz_D_grid (bi := bi) (P := fun b k => hy_jc (hy_has b s (nI (k / 144)) (nI ((k / 12) % 12)) (nI (k % 12))) (hy_has b t (nI (k / 144)) (nI ((k / 12) % 12)) (nI (k % 12))) w) (fun b M k hD => by rw [hz_D_has hD hs, hz_D_has hD ht])
  refine ⟨D.1, hz_D_eq D (fun i hi z hz => ?_) (fun i z _ _ q => q.1)⟩
  unfold hx_jf
  rw [hx_jf_at, if_pos hi, hx_jn_b hz]
  by_cases h12 : z < 12
  · rw [hz_hasg h hs hi h12, hz_hasg k ht hi h12]
    exact ⟨fun q => ⟨h12, q⟩, fun q => q.2⟩
  · rw [(h i hi).2 z (by omega) hz, (k i hi).2 z (by omega) hz]
    constructor
    · intro q
      exfalso
      rw [hy_jc_ff] at q
      cases q
    · intro q; exact absurd q.1 h12
theorem hx_rev_all0 : ∀ a, a < 64 → ∀ b, b < 64 → ∀ z, z < 12 → bt (hx_rev (nI (a * 64 + b))) z = (a * 64 + b).testBit (11 - z) := by decide +kernel
theorem hx_rev_hi {x : Int32} {z : Nat} (h1 : 12 ≤ z) (h2 : z < 32) : bt (hx_rev x) z = false := by
  unfold hx_rev hj_u
  rw [show (20 : Int32) = nI 20 from rfl, b_ushr 20 (by decide)]
  exact b_big (by omega)
theorem hx_rev_b {x : Int32} (h : hb_lo 12 x) {z : Nat} (hz : z < 12) : bt (hx_rev x) z = bt x (11 - z) := by
  obtain ⟨n, hn, rfl⟩ := hb_of 12 (by decide) h
  have q := hx_rev_all0 (n / 64) (by omega) (n % 64) (by omega) z hz
  rw [show n / 64 * 64 + n % 64 = n by omega] at q
  rw [q, hb_nI (by omega)]
