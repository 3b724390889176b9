theorem hm_it_sum {g : Nat → Nat} (N : Nat) : ∀ c : Nat, hx_it (fun i n => n + nI (g i)) N (nI c) = nI (c + hn_sum g N) := by
  induction N with
  | zero => intro c; rfl
  | succ N ih =>
    intro c
    show hx_it (fun i n => n + nI (g i)) N (nI c) + nI (g N) = nI (c + (hn_sum g N + g N))
    rw [ih, nI_add, Nat.add_assoc]
theorem hm_it_sum0 {F : Nat → Int32 → Int32} {g : Nat → Nat} {N : Nat} (h : ∀ i n, i < N → F i n = n + nI (g i)) : hx_it F N 0 = nI (hn_sum g N) := by
  have e : hx_it F N 0 = hx_it (fun i n => n + nI (g i)) N (nI 0) := by
    have key : ∀ M, M ≤ N → hx_it F M 0 = hx_it (fun i n => n + nI (g i)) M (nI 0) := by
      intro M
      induction M with
      | zero => intro _; rfl
      | succ M ih =>
        intro hM
        show F M (hx_it F M 0) = hx_it (fun i n => n + nI (g i)) M (nI 0) + nI (g M)
        rw [h M _ (by omega), ih (by omega)]
    exact key N (Nat.le_refl _)
  rw [e, hm_it_sum, Nat.zero_add]
theorem hm_it_add {F : Nat → Int32 → Int32} {g : Nat → Nat} {N : Nat} (h : ∀ i n, i < N → F i n = n + nI (g i)) (a : Int32) : hx_it F N a = a + nI (hn_sum g N) := by
  have key : ∀ M, M ≤ N → hx_it F M a = a + nI (hn_sum g M) := by
    intro M
    induction M with
    | zero => intro _; show a = a + nI 0; rw [nI_0, Int32.add_zero]
    | succ M ih =>
      intro hM
      show F M (hx_it F M a) = a + nI (hn_sum g M + g M)
      rw [h M _ (by omega), ih (by omega), Int32.add_assoc, nI_add]
  exact key N (Nat.le_refl _)
theorem hn_sum_add (f g : Nat → Nat) (n : Nat) : hn_sum (fun i => f i + g i) n = hn_sum f n + hn_sum g n := by
  induction n with
  | zero => rfl
  | succ n ih =>
    show hn_sum (fun i => f i + g i) n + (f n + g n) = hn_sum f n + f n + (hn_sum g n + g n)
    rw [ih]; omega
theorem hn_sum_zero {f : Nat → Nat} {n : Nat} (h : ∀ i, i < n → f i = 0) : hn_sum f n = 0 := by
  induction n with
  | zero => rfl
  | succ n ih =>
    show hn_sum f n + f n = 0
    rw [ih (fun i hi => h i (by omega)), h n (by omega)]
theorem hn_sum_swap (f : Nat → Nat → Nat) (m n : Nat) : hn_sum (fun i => hn_sum (fun j => f i j) n) m = hn_sum (fun j => hn_sum (fun i => f i j) m) n := by
  induction m with
  | zero => exact (hn_sum_zero (fun _ _ => rfl)).symm
  | succ m ih =>
    show hn_sum (fun i => hn_sum (fun j => f i j) n) m + hn_sum (fun j => f m j) n = hn_sum (fun j => hn_sum (fun i => f i j) m + f m j) n
    rw [ih, hn_sum_add]
theorem hn_sum_split (f : Nat → Nat) (m n : Nat) : hn_sum f (m + n) = hn_sum f m + hn_sum (fun j => f (m + j)) n := by
  induction n with
  | zero => rfl
  | succ n ih =>
    show hn_sum f (m + n) + f (m + n) = hn_sum f m + (hn_sum (fun j => f (m + j)) n + f (m + n))
    rw [ih]; omega
theorem hn_sum_prod (f : Nat → Nat) (n : Nat) (m : Nat) : hn_sum f (m * n) = hn_sum (fun i => hn_sum (fun j => f (i * n + j)) n) m := by
  induction m with
  | zero => rw [Nat.zero_mul]; rfl
  | succ m ih =>
    show _ = hn_sum (fun i => hn_sum (fun j => f (i * n + j)) n) m + hn_sum (fun j => f (m * n + j)) n
    rw [Nat.succ_mul, hn_sum_split, ih]
def hb_n (b : Bool) : Nat := if b = true then 1 else 0
theorem hx_s_n (b : Bool) : hx_s b 1 0 = nI (hb_n b) := by cases b <;> rfl
theorem hx_b_n (b : Bool) : hx_b b = nI (hb_n b) := by cases b <;> rfl
theorem hx_s_m (b : Bool) : hx_s b 0 1 = nI (hb_n (!b)) := by cases b <;> rfl
def hb_pc (n : Nat) (x : Int32) : Nat := hn_sum (fun z => hb_n (bt x z)) n
def hb_lo (n : Nat) (x : Int32) : Prop := ∀ i, n ≤ i → i < 32 → bt x i = false
theorem hb_nI {n i : Nat} (hi : i < 32) : bt (nI n) i = n.testBit i := by
  show (BitVec.ofNat 32 n).getLsbD i = _
  rw [BitVec.getLsbD_ofNat]
  simp [hi]
theorem hb_of (k : Nat) (hk : k ≤ 32) {x : Int32} (h : hb_lo k x) : ∃ n : Nat, n < 2 ^ k ∧ x = nI n := by
  refine ⟨x.toBitVec.toNat, ?_, ?_⟩
  · apply Nat.lt_of_not_le
    intro q
    obtain ⟨i, hi, hb⟩ := Nat.exists_ge_and_testBit_of_ge_two_pow q
    have h32 : i < 32 := by
      apply Nat.lt_of_not_le
      intro q2
      have : x.toBitVec.toNat < 2 ^ i := Nat.lt_of_lt_of_le x.toBitVec.isLt (Nat.pow_le_pow_right (by decide) q2)
      rw [Nat.testBit_lt_two_pow this] at hb
      cases hb
    have h1 := h i hi h32
    unfold bt at h1
    rw [← BitVec.testBit_toNat] at h1
    rw [h1] at hb
    cases hb
  · apply Int32.toBitVec_inj.1
    show x.toBitVec = BitVec.ofNat 32 x.toBitVec.toNat
    simp
def hb_pcn (n k : Nat) : Nat := hn_sum (fun z => hb_n (n.testBit z)) k
theorem hj_bc_all0 : ∀ a, a < 128 → ∀ b, b < 64 → hj_bc (nI (a * 64 + b)) = nI (hb_pcn (a * 64 + b) 13) := by decide +kernel
theorem hj_bc_all (n : Nat) (hn : n < 8192) : hj_bc (nI n) = nI (hb_pcn n 13) := by
  have := hj_bc_all0 (n / 64) (by omega) (n % 64) (by omega)
  rwa [show n / 64 * 64 + n % 64 = n by omega] at this
theorem hj_bc13 {x : Int32} (h : hb_lo 13 x) : hj_bc x = nI (hb_pc 13 x) := by
  obtain ⟨n, hn, rfl⟩ := hb_of 13 (by decide) h
  rw [hj_bc_all n hn]
  unfold hb_pcn hb_pc
  rw [hn_sum_congr (f := fun z => hb_n (n.testBit z)) (g := fun z => hb_n (bt (nI n) z)) (fun i hi => by rw [hb_nI (by omega)])]
theorem hb_lo_mono {a b : Nat} (hab : a ≤ b) {x : Int32} (h : hb_lo a x) : hb_lo b x := fun i h1 h2 => h i (by omega) h2
theorem hb_pc_12 {x : Int32} (h : hb_lo 12 x) : hb_pc 13 x = hb_pc 12 x := by
  show hb_pc 12 x + hb_n (bt x 12) = _
  rw [h 12 (Nat.le_refl _) (by decide)]
  rfl
theorem hj_bc12 {x : Int32} (h : hb_lo 12 x) : hj_bc x = nI (hb_pc 12 x) := by rw [hj_bc13 (hb_lo_mono (by decide) h), hb_pc_12 h]
theorem hb_lo_0 (k : Nat) : hb_lo k 0 := fun i _ _ => b_0 i
theorem hb_lo_or {k : Nat} {x y : Int32} (hx : hb_lo k x) (hy : hb_lo k y) : hb_lo k (x ||| y) := fun i h1 h2 => by rw [b_or, hx i h1 h2, hy i h1 h2]; rfl
theorem hb_lo_xor {k : Nat} {x y : Int32} (hx : hb_lo k x) (hy : hb_lo k y) : hb_lo k (x ^^^ y) := fun i h1 h2 => by rw [b_xor, hx i h1 h2, hy i h1 h2]; rfl
theorem hb_lo_and {k : Nat} {x y : Int32} (hx : hb_lo k x) : hb_lo k (x &&& y) := fun i h1 h2 => by rw [b_and, hx i h1 h2]; rfl
theorem b_shl1 (x : Int32) {i : Nat} (hi : i < 32) : bt (x <<< ((1 : Int32) &&& 31)) i = (decide (1 ≤ i) && bt x (i - 1)) := b_shl 1 (by omega) x hi
theorem hb_lo_shl1 {x : Int32} (hx : hb_lo 12 x) : hb_lo 13 (x <<< ((1 : Int32) &&& 31)) := fun i h1 h2 => by
  rw [b_shl1 x h2, hx (i - 1) (by omega) (by omega), Bool.and_false]
