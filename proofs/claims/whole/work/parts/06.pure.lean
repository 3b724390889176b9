def hx_b (b : Bool) : Int32 := if b then 1 else 0
theorem hx_b0 {b : Bool} : hx_b b = 0 ↔ b = false := by cases b <;> decide
theorem hx_bn0 {b : Bool} : ¬ hx_b b = 0 ↔ b = true := by cases b <;> decide
theorem hx_bnar (b : Bool) : narrow .boolean (.int (hx_b b)) = .int (hx_b b) := by cases b <;> rfl
def hx_s (b : Bool) (x y : Int32) : Int32 := if b = true then x else y
theorem hs_inc (k : Nat) : nI k + Int32.ofInt 1 = nI (k + 1) := nI_1 k
theorem hs_incx (x : Int32) : x + Int32.ofInt 1 = x + 1 := rfl
theorem hs_dec (k : Nat) : nI (k + 1) + Int32.ofInt (-1) = nI k := pk_m1 k
theorem hs_decx (x : Int32) : x + Int32.ofInt (-1) = x + (-1) := rfl
def hx_it {α : Type} (f : Nat → α → α) : Nat → α → α
  | 0, a => a
  | k + 1, a => f k (hx_it f k a)
theorem hx_it_s {α : Type} (f : Nat → α → α) (k : Nat) (a : α) : hx_it f (k + 1) a = f k (hx_it f k a) := rfl
theorem hs_self {ws : va_W} {q : Nat} {x : Nat × va_E} (h : ws[q]? = some x) : ws.set q x = ws := by
  obtain ⟨hl, he⟩ := List.getElem?_eq_some_iff.mp h
  subst he
  exact List.set_getElem_self hl
theorem hs_got {ws : va_W} {q : Nat} {x0 x : Nat × va_E} (h : ws[q]? = some x0) : (ws.set q x)[q]? = some x := by
  have hl := (List.getElem?_eq_some_iff.mp h).1
  rw [List.getElem?_set_self hl]
theorem hs_oth {ws : va_W} {q q2 : Nat} {x y : Nat × va_E} (hne : q ≠ q2) (h : ws[q2]? = some y) : (ws.set q x)[q2]? = some y := by
  rw [List.getElem?_set_ne hne]; exact h
def hx_in (c n : Int32) : Bool := !(decide (c < 0)) && !(decide (n ≤ c))
def hx_pl (c : Int32) : Bool := !(decide (c < 0)) && !(decide (12 < c))
def hx_str (a w : Int32) : Bool := hx_in a 12 && (!(decide (w < 1)) && !(decide (12 - a < w)))
def hx_spl (u v x : Int32) : Bool := if x = 0 then hx_pl u && hx_in v 12 else decide (x = 1) && (hx_in u 12 && hx_pl v)
theorem hx_in_nat {c : Int32} {n : Nat} (hn : n < 2 ^ 31) (h : hx_in c (nI n) = true) : ∃ j : Nat, j < n ∧ c = nI j := by
  simp only [hx_in, Bool.and_eq_true, Bool.not_eq_true', decide_eq_false_iff_not] at h
  rcases pk_ix c hn with h1 | h1 | h1
  · exact absurd h1 h.1
  · exact absurd h1 h.2
  · exact h1
theorem hx_in_lt {j n : Nat} (h : j < n) (hn : n < 2 ^ 31) : hx_in (nI j) (nI n) = true := by
  simp only [hx_in, Bool.and_eq_true, Bool.not_eq_true', decide_eq_false_iff_not]
  exact ⟨nI_pos (by omega), nI_ge h hn⟩
def hx_col (f : Nat → Int32) (x y : Int32) : Int32 := if hx_in x 12 && hx_in y 12 then f (x * 12 + y).toNatClampNeg else 0
theorem hx_col_in {x y : Int32} (hx : hx_in x 12 = true) (hy : hx_in y 12 = true) : ∃ a b : Nat, a < 12 ∧ b < 12 ∧ x = nI a ∧ y = nI b ∧ x * 12 + y = nI (a * 12 + b) := by
  obtain ⟨a, ha, rfl⟩ := hx_in_nat (n := 12) (by decide) hx
  obtain ⟨b, hb, rfl⟩ := hx_in_nat (n := 12) (by decide) hy
  refine ⟨a, b, ha, hb, rfl, rfl, ?_⟩
  show nI a * nI 12 + nI b = _
  rw [pk_mul, nI_add]
theorem hx_col_vp {x y : Int32} (hx : hx_in x 12 = true) (hy : hx_in y 12 = true) : vp_in (x * 12 + y) 144 := by
  obtain ⟨a, b, ha, hb, -, -, e⟩ := hx_col_in hx hy
  rw [e]
  exact vp_in_nI (by omega) (by decide)
theorem hx_col_n {f : Nat → Int32} {a b : Nat} (ha : a < 12) (hb : b < 12) : hx_col f (nI a) (nI b) = f (a * 12 + b) := by
  have h1 : hx_in (nI a) 12 = true := hx_in_lt (n := 12) ha (by decide)
  have h2 : hx_in (nI b) 12 = true := hx_in_lt (n := 12) hb (by decide)
  unfold hx_col
  rw [h1, h2]
  have e : nI a * 12 + nI b = nI (a * 12 + b) := by
    show nI a * nI 12 + nI b = _
    rw [pk_mul, nI_add]
  rw [e, nI_clamp (by omega)]
  rfl
theorem hx_col_x {f : Nat → Int32} {x y : Int32} (hx : hx_in x 12 = false) : hx_col f x y = 0 := by
  unfold hx_col; rw [hx]; rfl
theorem hx_col_y {f : Nat → Int32} {x y : Int32} (hy : hx_in y 12 = false) : hx_col f x y = 0 := by
  unfold hx_col; rw [hy, Bool.and_false]; rfl
def hx_al (f : Nat → Int32) (ax u v : Int32) : Int32 := if ax = 2 then hx_col f u v else if hx_in v 12 = false then 0 else hx_it (fun c b => b ||| ((((if ax = 0 then hx_col f (nI c) u else hx_col f u (nI c)) >>> (v &&& 31)) &&& 1) <<< (nI c &&& 31))) 12 0
def hx_fill (g : Nat → Nat → Int32) (F : Nat → Int32) : Nat → Int32 := hx_it (fun x F => hx_it (fun y F => upd F (x * 12 + y) (g x y)) 12 F) 12 F
def hj_u (x n : Int32) : Int32 := (x.toUInt32 >>> (n.toUInt32 &&& Int32.toUInt32 31)).toInt32
def hj_bc1 (i : Int32) : Int32 := i - (hj_u i 1 &&& 1431655765)
def hj_bc2 (i : Int32) : Int32 := (i &&& 858993459) + (hj_u i 2 &&& 858993459)
def hj_bc3 (i : Int32) : Int32 := (i + hj_u i 4) &&& 252645135
def hj_bc4 (i : Int32) : Int32 := i + hj_u i 8
def hj_bc5 (i : Int32) : Int32 := i + hj_u i 16
def hj_bc (i : Int32) : Int32 := hj_bc5 (hj_bc4 (hj_bc3 (hj_bc2 (hj_bc1 i)))) &&& 63
def hj_rb (i : Int32) : Int32 := (((i <<< ((24 : Int32) &&& 31)) ||| ((i &&& 65280) <<< ((8 : Int32) &&& 31))) ||| (hj_u i 8 &&& 65280)) ||| hj_u i 24
def hj_r1 (i : Int32) : Int32 := ((i &&& 1431655765) <<< ((1 : Int32) &&& 31)) ||| (hj_u i 1 &&& 1431655765)
def hj_r2 (i : Int32) : Int32 := ((i &&& 858993459) <<< ((2 : Int32) &&& 31)) ||| (hj_u i 2 &&& 858993459)
def hj_r3 (i : Int32) : Int32 := ((i &&& 252645135) <<< ((4 : Int32) &&& 31)) ||| (hj_u i 4 &&& 252645135)
def hj_rev (i : Int32) : Int32 := hj_rb (hj_r3 (hj_r2 (hj_r1 i)))
def hj_nl (t sh m : Int32) (P : Int32 × Int32) : Int32 × Int32 := if P.1 < t then P else (hj_u P.1 sh, P.2 + m)
def hj_nt (t sh m : Int32) (P : Int32 × Int32) : Int32 × Int32 := if P.1 ≤ t then P else (hj_u P.1 sh, P.2 + m)
def hj_nlz (i : Int32) : Int32 := if 0 < i then (hj_nl 4 2 (Int32.ofInt (-2)) (hj_nl 16 4 (Int32.ofInt (-4)) (hj_nl 256 8 (Int32.ofInt (-8)) (hj_nl 65536 16 (Int32.ofInt (-16)) (i, 31))))).2 - hj_u (hj_nl 4 2 (Int32.ofInt (-2)) (hj_nl 16 4 (Int32.ofInt (-4)) (hj_nl 256 8 (Int32.ofInt (-8)) (hj_nl 65536 16 (Int32.ofInt (-16)) (i, 31))))).1 1 else if i = 0 then 32 else 0
def hj_ntm (i : Int32) : Int32 := (i ^^^ (-1)) &&& (i - 1)
def hj_ntz (i : Int32) : Int32 := if 0 < hj_ntm i then (hj_nt 4 2 (Int32.ofInt 2) (hj_nt 16 4 (Int32.ofInt 4) (hj_nt 256 8 (Int32.ofInt 8) (hj_nt 65536 16 (Int32.ofInt 16) (hj_ntm i, 1))))).2 + hj_u (hj_nt 4 2 (Int32.ofInt 2) (hj_nt 16 4 (Int32.ofInt 4) (hj_nt 256 8 (Int32.ofInt 8) (hj_nt 65536 16 (Int32.ofInt 16) (hj_ntm i, 1))))).1 1 else hj_ntm i &&& 32
def hx_ea (a b c d : Int32) : Int32 := ((a ^^^ b) ||| (c ^^^ d)) &&& ((a ^^^ c) ||| (b ^^^ d))
def hx_eb (a c : Int32) : Int32 := hx_ea a (a <<< ((1 : Int32) &&& 31)) c (c <<< ((1 : Int32) &&& 31))
def hx_span (a b : Int32) : Int32 := ((1 : Int32) <<< ((b + 1) &&& 31)) - ((1 : Int32) <<< (a &&& 31))
def hx_jn (a b w : Int32) : Int32 := if w = 0 then a ||| b else if w = 1 then a &&& b else if w = 2 then a &&& (b ^^^ (-1)) else a ^^^ b
def hx_rev (c : Int32) : Int32 := hj_u (hj_rev c) 20
def hx_tc (f : Nat → Int32) (ax x y : Int32) : Int32 := if ax = 0 then hx_al f 1 x (11 - y) else if ax = 1 then hx_rev (hx_al f 0 y x) else hx_col f y (11 - x)
def hx_mc (f : Nat → Int32) (ax x y : Int32) : Int32 := if ax = 0 then hx_col f (11 - x) y else if ax = 1 then hx_col f x (11 - y) else hx_rev (hx_col f x y)
def hx_dep (c ab : Int32) : Int32 := if c = 0 then 12 else if ab = 0 then hj_ntz c else hj_nlz c - 20
def hx_sb (c n ab : Int32) : Int32 := if hx_dep c ab = hx_dep n ab then (if hx_eb c n = 0 then 0 else 1) else 2
def hx_cnt (f : Nat → Int32) : Int32 := hx_it (fun i n => n + hj_bc (f i)) 144 0
def hx_layer (f : Nat → Int32) (ax w : Int32) : Int32 := hx_it (fun i n => n + hj_bc (if ax = 0 then hx_col f w (nI i) else if ax = 1 then hx_col f (nI i) w else hx_al f 0 (nI i) w)) 12 0
def hx_fst (P : Nat → Bool) : Nat → Nat → Nat
  | 0, k => k
  | d + 1, k => if P k then k else hx_fst P d (k + 1)
def hx_lst (P : Nat → Bool) : Nat → Nat
  | 0 => 12
  | k + 1 => if P k then k else hx_lst P k
def hx_least (f : Nat → Int32) (ax : Int32) : Int32 := nI (hx_fst (fun w => decide (0 < hx_layer f ax (nI w))) 12 0)
def hx_great (f : Nat → Int32) (ax : Int32) : Int32 := nI (hx_lst (fun w => decide (0 < hx_layer f ax (nI w))) 12)
def hx_side1 (f : Nat → Int32) (x y n : Int32) : Int32 := n + hj_bc (hx_col f x y ^^^ hx_col f (x - 1) y) + hj_bc (hx_col f x y ^^^ hx_col f x (y - 1)) + hj_bc (hx_col f x y ^^^ (hx_col f x y <<< ((1 : Int32) &&& 31)))
def hx_sides (f : Nat → Int32) : Int32 := hx_it (fun x n => hx_it (fun y n => hx_side1 f (nI x) (nI y) n) 13 n) 13 0
def hx_edge1 (f : Nat → Int32) (x y n : Int32) : Int32 := n + hj_bc (hx_eb (hx_col f (x - 1) y) (hx_col f x y)) + hj_bc (hx_eb (hx_col f x (y - 1)) (hx_col f x y)) + hj_bc (hx_ea (hx_col f (x - 1) (y - 1)) (hx_col f x (y - 1)) (hx_col f (x - 1) y) (hx_col f x y))
def hx_edges (f : Nat → Int32) : Int32 := hx_it (fun x n => hx_it (fun y n => hx_edge1 f (nI x) (nI y) n) 13 n) 13 0
def hx_pair (f : Nat → Int32) (x y z : Int32) : Int32 := hj_bc (((hx_col f x y <<< ((1 : Int32) &&& 31)) >>> (z &&& 31)) &&& 3)
def hx_ar (f : Nat → Int32) (x y z : Int32) : Int32 := hx_pair f (x - 1) (y - 1) z + hx_pair f (x - 1) y z + hx_pair f x (y - 1) z + hx_pair f x y z
def hx_eq (f g : Nat → Int32) (n : Nat) : Bool := (List.range n).all (fun i => decide (f i = g i))
def hx_vw (f : Nat → Int32) (ax : Int32) (x y : Nat) : Int32 := hx_al f ax (nI x) (nI y)
def hx_bx (x0 y0 z0 x1 y1 z1 : Int32) (x y : Nat) : Int32 := if nI x < x0 ∨ x1 < nI x ∨ nI y < y0 ∨ y1 < nI y then 0 else hx_span z0 z1
def hx_sh (f : Nat → Int32) (dx dy dz : Int32) (x y : Nat) : Int32 := if 0 ≤ dz then hx_col f (nI x - dx) (nI y - dy) <<< (dz &&& 31) else hx_col f (nI x - dx) (nI y - dy) >>> ((-dz) &&& 31)
def hx_sw (f : Nat → Int32) (ax w a b : Int32) (x y : Nat) : Int32 := if ax = 0 then (if nI x < a ∨ b < nI x then 0 else hx_col f w (nI y)) else if ax = 1 then (if nI y < a ∨ b < nI y then 0 else hx_col f (nI x) w) else if (hx_col f (nI x) (nI y) >>> (w &&& 31)) &&& 1 = 1 then hx_span a b else 0
def hx_wl (f : Nat → Int32) (ax d : Int32) : Bool := !(decide (hx_least f ax = 12)) && (decide (d < -(hx_least f ax)) || decide (11 - hx_great f ax < d))
theorem hx_sw3 (x : Int32) : x = 0 ∨ x = 1 ∨ x = 2 ∨ ((x.toInt < 0 ∨ 2 < x.toInt) ∧ ¬ x = 0 ∧ ¬ x = 1 ∧ ¬ x = 2) := by
  by_cases h0 : x = 0
  · exact Or.inl h0
  by_cases h1 : x = 1
  · exact Or.inr (Or.inl h1)
  by_cases h2 : x = 2
  · exact Or.inr (Or.inr (Or.inl h2))
  refine Or.inr (Or.inr (Or.inr ⟨?_, h0, h1, h2⟩))
  have e0 : ¬ x.toInt = 0 := fun q => h0 (Int32.toInt_inj.mp (by rw [q]; rfl))
  have e1 : ¬ x.toInt = 1 := fun q => h1 (Int32.toInt_inj.mp (by rw [q]; rfl))
  have e2 : ¬ x.toInt = 2 := fun q => h2 (Int32.toInt_inj.mp (by rw [q]; rfl))
  omega
theorem hx_eq_t {f g : Nat → Int32} {n : Nat} (h : ∀ i, i < n → f i = g i) : hx_eq f g n = true := by
  unfold hx_eq
  rw [List.all_eq_true]
  intro i hi
  exact decide_eq_true (h i (List.mem_range.mp hi))
theorem hx_eq_f {f g : Nat → Int32} {n i : Nat} (hi : i < n) (h : ¬ f i = g i) : hx_eq f g n = false := by
  rw [Bool.eq_false_iff]
  intro q
  unfold hx_eq at q
  rw [List.all_eq_true] at q
  exact h (of_decide_eq_true (q i (List.mem_range.mpr hi)))
def hx_dn : Nat → Int32
  | 0 => -1
  | n + 1 => nI n
theorem hs_dn (n : Nat) : nI n + Int32.ofInt (-1) = hx_dn n := by
  cases n with
  | zero => decide
  | succ m => exact pk_m1 m
def hx_jf (f g : Nat → Int32) (w : Int32) (F : Nat → Int32) : Nat → Int32 := hx_it (fun i F => upd F i (hx_jn (f i) (g i) w)) 144 F
def hc_rd (F : (Nat → Int32) → Int32) (cols : Nat → Nat → Int32) (sol : Nat → Nat) (s : Int32) : Int32 := if hx_in s 6 = true then F (cols (sol s.toNatClampNeg)) else -1
theorem hc_rd_ok {F : (Nat → Int32) → Int32} {cols : Nat → Nat → Int32} {sol : Nat → Nat} {i : Nat} (hi : i < 6) : hc_rd F cols sol (nI i) = F (cols (sol i)) := by
  unfold hc_rd
  have h1 : hx_in (nI i) 6 = true := hx_in_lt (n := 6) hi (by decide)
  rw [if_pos h1, nI_clamp (by omega)]
theorem hc_rd_bad {F : (Nat → Int32) → Int32} {cols : Nat → Nat → Int32} {sol : Nat → Nat} {s : Int32} (h : hx_in s 6 = false) : hc_rd F cols sol s = -1 := by
  unfold hc_rd
  rw [h]; rfl
def hq_o (o d : Nat) : Nat := if d = 12 then (o + 1) % 12 else o
def hq_d (d : Nat) : Nat := if d = 12 then 11 else d
def hq_p (o d : Nat) : Nat := (hq_o o d + hq_d d) % 12
theorem hq_p_lt (o d : Nat) : hq_p o d < 12 := Nat.mod_lt _ (by decide)
abbrev HF : Type := (Nat → Int32) × (Nat → Int32) × Nat
def hf_take (x y b : Int32) (X : HF) : HF := if hx_in x 12 = true then (if hx_in y 12 = true then (if X.1 ((x * 12) + y).toNatClampNeg &&& b = 0 then X else if X.2.2 < 1728 then (upd X.1 ((x * 12) + y).toNatClampNeg (X.1 ((x * 12) + y).toNatClampNeg ^^^ (X.1 ((x * 12) + y).toNatClampNeg &&& b)), upd X.2.1 X.2.2 ((((x * 12) + y) <<< ((12 : Int32) &&& 31)) ||| (X.1 ((x * 12) + y).toNatClampNeg &&& b)), X.2.2 + 1) else X) else X) else X
theorem hf_take_le {x y b : Int32} {X : HF} (h : X.2.2 ≤ 1728) : (hf_take x y b X).2.2 ≤ 1728 := by
  unfold hf_take
  split
  · split
    · split
      · exact h
      · split
        · rename_i h4
          exact h4
        · exact h
    · exact h
  · exact h
def hf_one (i : Nat) (X : HF) : HF :=
  hf_take ((X.2.1 i >>> ((12 : Int32) &&& 31)) / 12) (((X.2.1 i >>> ((12 : Int32) &&& 31)) - (X.2.1 i >>> ((12 : Int32) &&& 31)) / 12 * 12) + 1) (X.2.1 i &&& 4095)
  (hf_take ((X.2.1 i >>> ((12 : Int32) &&& 31)) / 12) (((X.2.1 i >>> ((12 : Int32) &&& 31)) - (X.2.1 i >>> ((12 : Int32) &&& 31)) / 12 * 12) - 1) (X.2.1 i &&& 4095)
  (hf_take (((X.2.1 i >>> ((12 : Int32) &&& 31)) / 12) + 1) ((X.2.1 i >>> ((12 : Int32) &&& 31)) - (X.2.1 i >>> ((12 : Int32) &&& 31)) / 12 * 12) (X.2.1 i &&& 4095)
  (hf_take (((X.2.1 i >>> ((12 : Int32) &&& 31)) / 12) - 1) ((X.2.1 i >>> ((12 : Int32) &&& 31)) - (X.2.1 i >>> ((12 : Int32) &&& 31)) / 12 * 12) (X.2.1 i &&& 4095)
  (hf_take ((X.2.1 i >>> ((12 : Int32) &&& 31)) / 12) ((X.2.1 i >>> ((12 : Int32) &&& 31)) - (X.2.1 i >>> ((12 : Int32) &&& 31)) / 12 * 12) (((X.2.1 i &&& 4095) <<< ((1 : Int32) &&& 31)) ||| ((X.2.1 i &&& 4095) >>> ((1 : Int32) &&& 31))) X))))
theorem hf_one_le {i : Nat} {X : HF} (h : X.2.2 ≤ 1728) : (hf_one i X).2.2 ≤ 1728 := hf_take_le (hf_take_le (hf_take_le (hf_take_le (hf_take_le h))))
def hf_sp : Nat → Nat → HF → HF
  | 0, _, X => X
  | d + 1, i, X => if i < X.2.2 then hf_sp d (i + 1) (hf_one i X) else X
theorem hf_sp_le : ∀ (d i : Nat) (X : HF), X.2.2 ≤ 1728 → (hf_sp d i X).2.2 ≤ 1728 := by
  intro d
  induction d with
  | zero => intro i X h; exact h
  | succ d ih =>
    intro i X h
    unfold hf_sp
    split
    · exact ih _ _ (hf_one_le h)
    · exact h
def hf_cf (x0 y0 : Int32) (X : HF) : HF × Int32 := hx_it (fun z (Z : HF × Int32) => if 0 < (hf_take x0 y0 ((1 : Int32) <<< (nI z &&& 31)) (Z.1.1, Z.1.2.1, 0)).2.2 then (hf_sp 1728 0 (hf_take x0 y0 ((1 : Int32) <<< (nI z &&& 31)) (Z.1.1, Z.1.2.1, 0)), Z.2 + 1) else (hf_take x0 y0 ((1 : Int32) <<< (nI z &&& 31)) (Z.1.1, Z.1.2.1, 0), Z.2)) 12 (X, 0)
def hf_cl (X : HF) : HF × Int32 := hx_it (fun x (Z : HF × Int32) => hx_it (fun y (Z : HF × Int32) => ((hf_cf (nI x) (nI y) Z.1).1, Z.2 + (hf_cf (nI x) (nI y) Z.1).2)) 12 Z) 12 (X, 0)
theorem hx_it_inv {α : Type} {P : α → Prop} {f : Nat → α → α} {a : α} {n : Nat} (hs : ∀ k b, P b → P (f k b)) (h0 : P a) : P (hx_it f n a) := by
  induction n with
  | zero => exact h0
  | succ n ih => exact hs n _ ih
def hf_bm (x y : Nat) : Int32 := if nI x = 0 ∨ nI x = 11 ∨ nI y = 0 ∨ nI y = 11 then 4095 else 2049
def hf_db (X : HF) : HF := hf_sp 1728 0 (hx_it (fun x F => hx_it (fun y F => hf_take (nI x) (nI y) (hf_bm x y) F) 12 F) 12 (X.1, X.2.1, 0))
theorem hf_db_le (X : HF) : (hf_db X).2.2 ≤ 1728 := hf_sp_le _ _ _ (hx_it_inv (P := fun F : HF => F.2.2 ≤ 1728) (fun _ _ h1 => hx_it_inv (P := fun F : HF => F.2.2 ≤ 1728) (fun _ _ h2 => hf_take_le h2) h1) (Nat.zero_le _))
def hf_pc (f : Nat → Int32) (X : HF) : HF × Int32 := hf_cl (hx_it (fun i F => upd F i (f i)) 144 X.1, X.2.1, X.2.2)
def hf_hl (f : Nat → Int32) (X : HF) : HF × Int32 := hf_cl (hf_db (hx_it (fun i F => upd F i (4095 &&& (f i ^^^ (-1)))) 144 X.1, X.2.1, X.2.2))
def hc_if (b : Bool) (w v : Int32) : Int32 := if b = true then v else w
def hc_mom (f : Nat → Int32) (ax : Int32) : Int32 := hx_it (fun k n => n + (nI (2 * k + 1)) * hx_layer f ax (nI k)) 12 0
def hc_sk1 (V : Nat → Int32) (ab kd u v n : Int32) : Int32 := if hx_sb (hx_col V u (v - 1)) (hx_col V u v) ab = kd then (if hx_sb (hx_col V (u - 1) v) (hx_col V u v) ab = kd then n + 1 else n) + 1 else (if hx_sb (hx_col V (u - 1) v) (hx_col V u v) ab = kd then n + 1 else n)
def hc_sk (V : Nat → Int32) (ab kd : Int32) : Int32 := hx_it (fun u n => hx_it (fun v n => hc_sk1 V ab kd (nI u) (nI v) n) 13 n) 13 0
theorem hs_up_same {α : Type} (f : Nat → α) (k : Nat) : va_up f k (f k) = f := by
  funext j
  unfold va_up
  split
  · rename_i h; rw [h]
  · rfl
theorem hs_upo {g : Nat → Nat} {oth : Nat → Nat} {p b : Nat} : va_up (fun i => some (g (13 + oth i))) p (some (g (13 + b))) = fun i => some (g (13 + va_up oth p b i)) := by
  funext i
  simp only [va_up]
  split <;> rfl
def hy_shd (c w : Int32) : Int32 := if w ≤ -12 then -1 else if 12 ≤ w then -1 else if hx_in (c + w) 12 = true then c + w else -1
def hy_ix (s : Nat) (x y : Int32) : Int32 := nI (144 * s) + (12 * x) + y
theorem hy_ixn {s a b : Nat} : hy_ix s (nI a) (nI b) = nI (144 * s + 12 * a + b) := by
  show nI (144 * s) + (nI 12 * nI a) + nI b = _
  rw [pk_mul, nI_add, nI_add]
theorem hy_ixv {s : Nat} {x y : Int32} (hs : s < 6) (hx : hx_in x 12 = true) (hy : hx_in y 12 = true) : vp_in (hy_ix s x y) 4464 := by
  obtain ⟨a, ha, rfl⟩ := hx_in_nat (n := 12) (by decide) hx
  obtain ⟨b, hb, rfl⟩ := hx_in_nat (n := 12) (by decide) hy
  rw [hy_ixn]
  exact vp_in_nI (by omega) (by decide)
def hy_has (bi : Nat → Int32) (s : Nat) (x y z : Int32) : Bool := hx_in x 12 && (hx_in y 12 && (hx_in z 12 && decide ((bi (hy_ix s x y).toNatClampNeg >>> (z &&& 31)) &&& 1 = 1)))
def hy_hb (bi : Nat → Int32) (s : Nat) (ax o u v : Int32) : Bool := if ax = 0 then hy_has bi s o u v else if ax = 1 then hy_has bi s u o v else hy_has bi s u v o
def hy_clr (bi : Nat → Int32) : Nat → Int32 := hx_it (fun k b => upd b (864 + k) 0) 144 bi
def hy_put (bi : Nat → Int32) (x y : Nat) (z : Int32) : Nat → Int32 := upd bi (864 + 12 * x + y) (bi (864 + 12 * x + y) ||| ((1 : Int32) <<< (z &&& 31)))
def hy_cpy (bi : Nat → Int32) (a b : Nat) : Nat → Int32 := hx_it (fun k c => upd c (b + k) (c (a + k))) 144 bi
def hy_cnt (bi : Nat → Int32) (s : Nat) : Int32 := hx_it (fun k n => n + ((bi (144 * s + k / 12) >>> (nI (k % 12) &&& 31)) &&& 1)) 1728 0
def hy_ed (bi : Nat → Int32) (s : Nat) (ax o u v : Int32) : Bool :=
  decide (hx_s (hy_hb bi s ax o (u - 1) (v - 1)) 1 0 + hx_s (hy_hb bi s ax o u (v - 1)) 1 0 + hx_s (hy_hb bi s ax o (u - 1) v) 1 0 + hx_s (hy_hb bi s ax o u v) 1 0 = 1) || (decide (hx_s (hy_hb bi s ax o (u - 1) (v - 1)) 1 0 + hx_s (hy_hb bi s ax o u (v - 1)) 1 0 + hx_s (hy_hb bi s ax o (u - 1) v) 1 0 + hx_s (hy_hb bi s ax o u v) 1 0 = 3) || (decide (hx_s (hy_hb bi s ax o (u - 1) (v - 1)) 1 0 + hx_s (hy_hb bi s ax o u (v - 1)) 1 0 + hx_s (hy_hb bi s ax o (u - 1) v) 1 0 + hx_s (hy_hb bi s ax o u v) 1 0 = 2) && decide (hx_b (hy_hb bi s ax o (u - 1) (v - 1)) = hx_b (hy_hb bi s ax o u v))))
def hy_at (bi : Nat → Int32) (s : Nat) (ax w : Int32) : Int32 := hx_it (fun k n => n + hx_s (hy_hb bi s ax w (nI (k / 12)) (nI (k % 12))) 1 0) 144 0
def hy_dep (bi : Nat → Int32) (s : Nat) (ax b u v : Int32) : Int32 := nI (hx_fst (fun n => hy_hb bi s ax (if b = 0 then nI n else 11 - nI n) u v) 12 0)
def hy_ea (bi : Nat → Int32) (s : Nat) (ax u v x w : Int32) : Bool := if ax = 0 then (if x = 0 then hy_ed bi s 2 v w u else hy_ed bi s 1 u w v) else if ax = 1 then (if x = 0 then hy_ed bi s 2 v u w else hy_ed bi s 0 u w v) else (if x = 0 then hy_ed bi s 1 v u w else hy_ed bi s 0 u v w)
def hy_st (bi : Nat → Int32) (s : Nat) (ax b u v x : Int32) : Int32 := if (if x = 0 then hy_dep bi s ax b (u - 1) v else hy_dep bi s ax b u (v - 1)) = hy_dep bi s ax b u v then hx_it (fun k n => if hy_ea bi s ax u v x (nI k) = true then 1 else n) 13 0 else 2
def hy_sd1 (bi : Nat → Int32) (s k : Nat) (n : Int32) : Int32 :=
  if hy_has bi s (nI (k / 144)) (nI (k / 12 % 12)) (nI (k % 12)) = true then
    (n + ((hx_s (hy_has bi s (nI (k / 144) - 1) (nI (k / 12 % 12)) (nI (k % 12))) 0 1 + hx_s (hy_has bi s (nI (k / 144 + 1)) (nI (k / 12 % 12)) (nI (k % 12))) 0 1) + hx_s (hy_has bi s (nI (k / 144)) (nI (k / 12 % 12) - 1) (nI (k % 12))) 0 1))
      + ((hx_s (hy_has bi s (nI (k / 144)) (nI (k / 12 % 12 + 1)) (nI (k % 12))) 0 1 + hx_s (hy_has bi s (nI (k / 144)) (nI (k / 12 % 12)) (nI (k % 12) - 1)) 0 1) + hx_s (hy_has bi s (nI (k / 144)) (nI (k / 12 % 12)) (nI (k % 12 + 1))) 0 1)
  else n
def hy_sd (bi : Nat → Int32) (s : Nat) : Int32 := hx_it (fun k n => hy_sd1 bi s k n) 1728 0
def hy_eg (bi : Nat → Int32) (s : Nat) : Int32 := hx_it (fun ax n => hx_it (fun o n => hx_it (fun u n => hx_it (fun v n => n + hx_s (hy_ed bi s (nI ax) (nI o) (nI u) (nI v)) 1 0) 13 n) 13 n) 12 n) 3 0
def hy_mom (bi : Nat → Int32) (s : Nat) (ax : Int32) : Int32 := hx_it (fun k n => n + (nI (2 * k + 1)) * hy_at bi s ax (nI k)) 12 0
def hy_ex1 (n k : Int32) (Z : Int32 × Int32) : Int32 × Int32 := if n ≤ 0 then Z else (if Z.1 = 12 then k else Z.1, k)
def hy_ex (bi : Nat → Int32) (s : Nat) (ax : Int32) : Int32 × Int32 := hx_it (fun k (Z : Int32 × Int32) => hy_ex1 (hy_at bi s ax (nI k)) (nI k) Z) 12 (12, 12)
def hy_sp (u v x : Int32) : Bool := if x = 0 then hx_in u 13 && hx_in v 12 else decide (x = 1) && (hx_in u 12 && hx_in v 13)
def hy_sk1 (bi : Nat → Int32) (s : Nat) (ax b w : Int32) (u v : Nat) (n : Int32) : Int32 := (n + (if hy_st bi s ax b (nI u) (nI v) 0 = w then 1 else 0)) + (if hy_st bi s ax b (nI v) (nI u) 1 = w then 1 else 0)
def hy_sk (bi : Nat → Int32) (s : Nat) (ax b w : Int32) : Int32 := hx_it (fun u n => hx_it (fun v n => hy_sk1 bi s ax b w u v n) 12 n) 13 0
def hy_stp (bi wh : Nat → Int32) (d s : Nat) : (Nat → Int32) × (Nat → Int32) :=
  (hy_cpy (hy_cpy (hy_cpy (if d = 12 then hx_it (fun k (Z : (Nat → Int32) × (Nat → Int32)) => (hy_cpy (hy_cpy Z.1 (1008 + (144 * (k + 1))) (1008 + (144 * k))) (2736 + (144 * (k + 1))) (2736 + (144 * k)), upd Z.2 k (Z.2 (k + 1)))) 11 (bi, wh) else (bi, wh)).1 (144 * s) (1008 + (144 * hq_d d))) 864 (2736 + (144 * hq_d d))) 864 (144 * s),
   upd (if d = 12 then hx_it (fun k (Z : (Nat → Int32) × (Nat → Int32)) => (hy_cpy (hy_cpy Z.1 (1008 + (144 * (k + 1))) (1008 + (144 * k))) (2736 + (144 * (k + 1))) (2736 + (144 * k)), upd Z.2 k (Z.2 (k + 1)))) 11 (bi, wh) else (bi, wh)).2 (hq_d d) (nI s))
def hy_jc (p q : Bool) (w : Int32) : Bool := if w = 0 then p || q else if w = 1 then p && q else if w = 2 then p && !q else p ^^ q
def hy_tc (b : Nat → Int32) (s : Nat) (ax : Int32) (k : Nat) : Bool := if ax = 0 then hy_has b s (nI (k / 144)) (nI (k % 12)) (11 - nI ((k / 12) % 12)) else if ax = 1 then hy_has b s (11 - nI (k % 12)) (nI ((k / 12) % 12)) (nI (k / 144)) else hy_has b s (nI ((k / 12) % 12)) (11 - nI (k / 144)) (nI (k % 12))
def hy_mc (b : Nat → Int32) (s : Nat) (ax : Int32) (k : Nat) : Bool := hy_has b s (if ax = 0 then 11 - nI (k / 144) else nI (k / 144)) (if ax = 1 then 11 - nI ((k / 12) % 12) else nI ((k / 12) % 12)) (if ax = 2 then 11 - nI (k % 12) else nI (k % 12))
theorem hs_m1p (a : Nat) : (nI a - 1) + Int32.ofInt 1 = nI a := by
  show (nI a - 1) + 1 = nI a
  exact Int32.sub_add_cancel _ _
theorem hs_m1n {a : Nat} (h : a < 2 ^ 30) : ¬ nI a < nI a - 1 := by
  rw [Int32.lt_iff_toInt_lt]
  show ¬ (nI a).toInt < (nI a - nI 1).toInt
  rw [nI_toInt (by omega), pk_sub_toInt h (by decide)]
  omega
def hy_same (bi : Nat → Int32) (s t : Nat) : Bool := hx_it (fun k b => b && decide (bi (144 * s + k) = bi (144 * t + k))) 144 true
def hy_ins (bi : Nat → Int32) (s : Nat) (x y z : Int32) : Int32 := (((((((0 + hx_s (hy_has bi s (x - 1) (y - 1) (z - 1)) 1 0) + hx_s (hy_has bi s (x - 1) (y - 1) z) 1 0) + hx_s (hy_has bi s (x - 1) y (z - 1)) 1 0) + hx_s (hy_has bi s (x - 1) y z) 1 0) + hx_s (hy_has bi s x (y - 1) (z - 1)) 1 0) + hx_s (hy_has bi s x (y - 1) z) 1 0) + hx_s (hy_has bi s x y (z - 1)) 1 0) + hx_s (hy_has bi s x y z) 1 0
theorem hx_pos_nat {w : Int32} (h1 : ¬ w ≤ 0) (h2 : ¬ 12 < w) : ∃ n : Nat, 0 < n ∧ n ≤ 12 ∧ w = nI n := by
  have h0 : ¬ w < 0 := fun q => h1 (Int32.le_of_lt q)
  obtain ⟨j, hj, rfl⟩ := nI_of2 (M := 12) (n := 12) (by decide) h0 (Int32.not_lt.mp h2)
  refine ⟨j, ?_, hj, rfl⟩
  rcases Nat.eq_zero_or_pos j with h | h
  · subst h; exact absurd (by decide) h1
  · exact h
def hy_swp (ax : Int32) (b : Nat → Int32) (u v c : Nat) : Nat → Int32 := if ax = 0 then (if ax = 1 then (if ax = 2 then hy_put (hy_put (hy_put b c u (nI v)) u c (nI v)) u v (nI c) else hy_put (hy_put b c u (nI v)) u c (nI v)) else (if ax = 2 then hy_put (hy_put b c u (nI v)) u v (nI c) else hy_put b c u (nI v))) else (if ax = 1 then (if ax = 2 then hy_put (hy_put b u c (nI v)) u v (nI c) else hy_put b u c (nI v)) else (if ax = 2 then hy_put b u v (nI c) else b))
def hy_swl (s : Nat) (ax w : Int32) (u v : Nat) : Nat → Nat → (Nat → Int32) → (Nat → Int32)
  | 0, _, b => b
  | d + 1, c, b => if hy_hb b s ax w (nI u) (nI v) = true then hy_swl s ax w u v d (c + 1) (hy_swp ax b u v c) else b
def hy_shf (bi : Nat → Int32) (s : Nat) (dx dy dz : Int32) (n : Nat) : Nat → Int32 := hx_it (fun k b => if hy_has b s (nI (k / 144)) (nI ((k / 12) % 12)) (nI (k % 12)) = true then hy_put b (hy_shd (nI (k / 144)) dx).toNatClampNeg (hy_shd (nI ((k / 12) % 12)) dy).toNatClampNeg (hy_shd (nI (k % 12)) dz) else b) n (hy_clr bi)
theorem hy_shf_s (bi : Nat → Int32) (s : Nat) (dx dy dz : Int32) (k : Nat) : hy_shf bi s dx dy dz (k + 1) = if hy_has (hy_shf bi s dx dy dz k) s (nI (k / 144)) (nI ((k / 12) % 12)) (nI (k % 12)) = true then hy_put (hy_shf bi s dx dy dz k) (hy_shd (nI (k / 144)) dx).toNatClampNeg (hy_shd (nI ((k / 12) % 12)) dy).toNatClampNeg (hy_shd (nI (k % 12)) dz) else hy_shf bi s dx dy dz k := rfl
def hy_sbad (bi : Nat → Int32) (s : Nat) (dx dy dz : Int32) (k : Nat) : Bool := hy_has (hy_shf bi s dx dy dz k) s (nI (k / 144)) (nI ((k / 12) % 12)) (nI (k % 12)) && (decide (hy_shd (nI (k / 144)) dx < 0) || (decide (hy_shd (nI ((k / 12) % 12)) dy < 0) || decide (hy_shd (nI (k % 12)) dz < 0)))
theorem hy_shd_nat {c w : Int32} (h : ¬ hy_shd c w < 0) : ∃ j : Nat, j < 12 ∧ hy_shd c w = nI j := by
  unfold hy_shd at h ⊢
  by_cases h1 : w ≤ -12
  · rw [if_pos h1] at h
    exact absurd (by decide) h
  · rw [if_neg h1] at h ⊢
    by_cases h2 : 12 ≤ w
    · rw [if_pos h2] at h
      exact absurd (by decide) h
    · rw [if_neg h2] at h ⊢
      by_cases h3 : hx_in (c + w) 12 = true
      · rw [if_pos h3]
        exact hx_in_nat (n := 12) (by decide) h3
      · rw [if_neg h3] at h
        exact absurd (by decide) h
theorem hy_sev {x y : Int32} (hx : hx_in x 12 = true) (hy : hx_in y 12 = true) : vp_in ((12 * x) + y) 144 := by
  obtain ⟨a, ha, rfl⟩ := hx_in_nat (n := 12) (by decide) hx
  obtain ⟨b, hb, rfl⟩ := hx_in_nat (n := 12) (by decide) hy
  have e : 12 * nI a + nI b = nI (12 * a + b) := by
    show nI 12 * nI a + nI b = _
    rw [pk_mul, nI_add]
  rw [e]
  exact vp_in_nI (by omega) (by decide)
def hm_new (bi : Nat → Int32) (s : Nat) (w : Int32) (Y : HF) (x y z : Int32) : Bool := hx_in x 12 && (hx_in y 12 && (hx_in z 12 && (decide (hx_b (hy_has bi s x y z) = w) && !(decide ((Y.1 ((12 * x) + y).toNatClampNeg >>> (z &&& 31)) &&& 1 = 1)))))
def hm_see (bi : Nat → Int32) (s : Nat) (w : Int32) (x y z : Int32) (Y : HF) : HF := if hm_new bi s w Y x y z = true then (upd Y.1 ((12 * x) + y).toNatClampNeg (Y.1 ((12 * x) + y).toNatClampNeg ||| ((1 : Int32) <<< (z &&& 31))), upd Y.2.1 Y.2.2 (((144 * x) + (12 * y)) + z), Y.2.2 + 1) else Y
theorem hm_see_yes {bi : Nat → Int32} {s : Nat} {w : Int32} {x y z : Int32} {Y : HF} (h : hm_new bi s w Y x y z = true) : hm_see bi s w x y z Y = (upd Y.1 ((12 * x) + y).toNatClampNeg (Y.1 ((12 * x) + y).toNatClampNeg ||| ((1 : Int32) <<< (z &&& 31))), upd Y.2.1 Y.2.2 (((144 * x) + (12 * y)) + z), Y.2.2 + 1) := if_pos h
theorem hm_see_no {bi : Nat → Int32} {s : Nat} {w : Int32} {x y z : Int32} {Y : HF} (h : hm_new bi s w Y x y z = false) : hm_see bi s w x y z Y = Y := by
  unfold hm_see; rw [h]; rfl
theorem hx_bfit (b : Bool) : fits .boolean (.int (hx_b b)) = true := by cases b <;> rfl
def hm_bd (e : Int32) (b : Bool) : Bool := b || ((decide (e / 144 = 0) || decide (e / 144 = 11)) || ((decide (e / 12 - e / 12 / 12 * 12 = 0) || decide (e / 12 - e / 12 / 12 * 12 = 11)) || (decide (e - e / 12 * 12 = 0) || decide (e - e / 12 * 12 = 11))))
def hm_one (bi : Nat → Int32) (s : Nat) (w : Int32) (Y : HF) : HF :=
  hm_see bi s w (Y.2.1 Y.2.2 / 144) (Y.2.1 Y.2.2 / 12 - Y.2.1 Y.2.2 / 12 / 12 * 12) ((Y.2.1 Y.2.2 - Y.2.1 Y.2.2 / 12 * 12) + 1)
  (hm_see bi s w (Y.2.1 Y.2.2 / 144) (Y.2.1 Y.2.2 / 12 - Y.2.1 Y.2.2 / 12 / 12 * 12) ((Y.2.1 Y.2.2 - Y.2.1 Y.2.2 / 12 * 12) - 1)
  (hm_see bi s w (Y.2.1 Y.2.2 / 144) ((Y.2.1 Y.2.2 / 12 - Y.2.1 Y.2.2 / 12 / 12 * 12) + 1) (Y.2.1 Y.2.2 - Y.2.1 Y.2.2 / 12 * 12)
  (hm_see bi s w (Y.2.1 Y.2.2 / 144) ((Y.2.1 Y.2.2 / 12 - Y.2.1 Y.2.2 / 12 / 12 * 12) - 1) (Y.2.1 Y.2.2 - Y.2.1 Y.2.2 / 12 * 12)
  (hm_see bi s w ((Y.2.1 Y.2.2 / 144) + 1) (Y.2.1 Y.2.2 / 12 - Y.2.1 Y.2.2 / 12 / 12 * 12) (Y.2.1 Y.2.2 - Y.2.1 Y.2.2 / 12 * 12)
  (hm_see bi s w ((Y.2.1 Y.2.2 / 144) - 1) (Y.2.1 Y.2.2 / 12 - Y.2.1 Y.2.2 / 12 / 12 * 12) (Y.2.1 Y.2.2 - Y.2.1 Y.2.2 / 12 * 12) Y)))))
def hm_spr (bi : Nat → Int32) (s : Nat) (w : Int32) : Nat → HF × Bool → HF × Bool
  | 0, Z => Z
  | N + 1, Z => if Z.1.2.2 = 0 then Z else hm_spr bi s w N (hm_one bi s w (Z.1.1, Z.1.2.1, Z.1.2.2 - 1), hm_bd (Z.1.2.1 (Z.1.2.2 - 1)) Z.2)
theorem hm_spr_0 {bi : Nat → Int32} {s : Nat} {w : Int32} {N : Nat} {S P : Nat → Int32} {b : Bool} : hm_spr bi s w (N + 1) ((S, P, 0), b) = ((S, P, 0), b) := rfl
theorem hm_spr_s {bi : Nat → Int32} {s : Nat} {w : Int32} {N n : Nat} {S P : Nat → Int32} {b : Bool} : hm_spr bi s w (N + 1) ((S, P, n + 1), b) = hm_spr bi s w N (hm_one bi s w (S, P, n), hm_bd (P n) b) := rfl
def hm_set1 (bi : Nat → Int32) (s : Nat) (w : Int32) (k : Nat) (Z : (HF × Bool) × Int32) : (HF × Bool) × Int32 :=
  if 0 < (hm_see bi s w (nI (k / 144)) (nI ((k / 12) % 12)) (nI (k % 12)) (Z.1.1.1, Z.1.1.2.1, 0)).2.2 then
    (hm_spr bi s w 5185 (hm_see bi s w (nI (k / 144)) (nI ((k / 12) % 12)) (nI (k % 12)) (Z.1.1.1, Z.1.1.2.1, 0), false), Z.2 + (if w = 0 ∧ (hm_spr bi s w 5185 (hm_see bi s w (nI (k / 144)) (nI ((k / 12) % 12)) (nI (k % 12)) (Z.1.1.1, Z.1.1.2.1, 0), false)).2 = true then 0 else 1))
  else ((hm_see bi s w (nI (k / 144)) (nI ((k / 12) % 12)) (nI (k % 12)) (Z.1.1.1, Z.1.1.2.1, 0), Z.1.2), Z.2)
def hm_sets (bi : Nat → Int32) (s : Nat) (w : Int32) (Y : HF) (b : Bool) : (HF × Bool) × Int32 := hx_it (hm_set1 bi s w) 1728 (((hx_it (fun k F => upd F k 0) 144 Y.1, Y.2.1, Y.2.2), b), 0)
def bt (x : Int32) (i : Nat) : Bool := x.toBitVec.getLsbD i
theorem b_ext {x y : Int32} (h : ∀ i, i < 32 → bt x i = bt y i) : x = y := Int32.toBitVec_inj.mp (BitVec.eq_of_getLsbD_eq (fun i hi => h i hi))
theorem b_or (x y : Int32) (i : Nat) : bt (x ||| y) i = (bt x i || bt y i) := by unfold bt; rw [Int32.toBitVec_or, BitVec.getLsbD_or]
theorem b_and (x y : Int32) (i : Nat) : bt (x &&& y) i = (bt x i && bt y i) := by unfold bt; rw [Int32.toBitVec_and, BitVec.getLsbD_and]
theorem b_xor (x y : Int32) (i : Nat) : bt (x ^^^ y) i = (bt x i ^^ bt y i) := by unfold bt; rw [Int32.toBitVec_xor, BitVec.getLsbD_xor]
theorem b_big {x : Int32} {i : Nat} (h : 32 ≤ i) : bt x i = false := BitVec.getLsbD_of_ge _ _ h
theorem b_255 (i : Nat) : bt 255 i = decide (i < 8) := by
  rcases Nat.lt_or_ge i 32 with h | h
  · exact (by decide +kernel : ∀ i, i < 32 → bt 255 i = decide (i < 8)) i h
  · rw [b_big h, decide_eq_false (by omega)]
theorem b_65535 (i : Nat) : bt 65535 i = decide (i < 16) := by
  rcases Nat.lt_or_ge i 32 with h | h
  · exact (by decide +kernel : ∀ i, i < 32 → bt 65535 i = decide (i < 16)) i h
  · rw [b_big h, decide_eq_false (by omega)]
theorem b_m1 : ∀ i, i < 32 → bt (-1) i = true := by decide +kernel
theorem b_0 (i : Nat) : bt 0 i = false := BitVec.getLsbD_zero
theorem s_l : ∀ n, n < 32 → ((nI n &&& 31).toBitVec.smod 32).toNat = n := by decide +kernel
theorem s_u : ∀ n, n < 32 → (((nI n).toUInt32 &&& Int32.toUInt32 31).toBitVec % 32).toNat = n := by decide +kernel
theorem b_shl (n : Nat) (hn : n < 32) (x : Int32) {i : Nat} (hi : i < 32) : bt (x <<< (nI n &&& 31)) i = (decide (n ≤ i) && bt x (i - n)) := by
  unfold bt
  rw [Int32.toBitVec_shiftLeft]
  show (x.toBitVec <<< ((nI n &&& 31).toBitVec.smod 32).toNat).getLsbD i = _
  rw [s_l n hn, BitVec.getLsbD_shiftLeft]
  rcases Nat.lt_or_ge i n with h | h
  · simp [h, Nat.not_le.mpr h]
  · simp [hi, h, Nat.not_lt.mpr h]
theorem b_ushr (n : Nat) (hn : n < 32) (x : Int32) (i : Nat) : bt ((x.toUInt32 >>> ((nI n).toUInt32 &&& Int32.toUInt32 31)).toInt32) i = bt x (n + i) := by
  show (x.toUInt32 >>> ((nI n).toUInt32 &&& Int32.toUInt32 31)).toBitVec.getLsbD i = x.toUInt32.toBitVec.getLsbD (n + i)
  rw [UInt32.toBitVec_shiftRight]
  show (x.toUInt32.toBitVec >>> (((nI n).toUInt32 &&& Int32.toUInt32 31).toBitVec % 32).toNat).getLsbD i = _
  rw [s_u n hn, BitVec.getLsbD_ushiftRight]
theorem b_sshr (n : Nat) (hn : n < 32) (x : Int32) {i : Nat} (hi : i < 32) : bt (x >>> (nI n &&& 31)) i = if n + i < 32 then bt x (n + i) else bt x 31 := by
  unfold bt
  rw [Int32.toBitVec_shiftRight]
  show (x.toBitVec.sshiftRight ((nI n &&& 31).toBitVec.smod 32).toNat).getLsbD i = _
  rw [s_l n hn, BitVec.getLsbD_sshiftRight, BitVec.msb_eq_getLsbD_last]
  simp [hi]
theorem hb_1 {i : Nat} (hi : i < 32) : bt 1 i = decide (i = 0) := (by decide +kernel : ∀ i, i < 32 → bt 1 i = decide (i = 0)) i hi
theorem hb_4095 {i : Nat} (hi : i < 32) : bt 4095 i = decide (i < 12) := (by decide +kernel : ∀ i, i < 32 → bt 4095 i = decide (i < 12)) i hi
theorem hb_b0 (b : Bool) : bt (hx_b b) 0 = b := by cases b <;> decide
theorem hb_bs (b : Bool) {i : Nat} (hi : i < 32) (h0 : ¬ i = 0) : bt (hx_b b) i = false := by
  cases b
  · exact b_0 i
  · show bt 1 i = false
    rw [hb_1 hi, decide_eq_false h0]
theorem hb_sel (x : Int32) {z : Nat} (hz : z < 32) : (x >>> (nI z &&& 31)) &&& 1 = hx_b (bt x z) := by
  apply b_ext
  intro i hi
  rw [b_and, b_sshr z hz x hi, hb_1 hi]
  by_cases h0 : i = 0
  · subst h0
    rw [Nat.add_zero, if_pos hz, hb_b0, decide_eq_true rfl, Bool.and_true]
  · rw [decide_eq_false h0, Bool.and_false, hb_bs _ hi h0]
theorem hb_test (x : Int32) {z : Nat} (hz : z < 32) : ((x >>> (nI z &&& 31)) &&& 1 = 1) ↔ bt x z = true := by
  rw [hb_sel x hz]
  cases bt x z <;> decide
theorem hb_pow {c i : Nat} (hc : c < 32) (hi : i < 32) : bt ((1 : Int32) <<< (nI c &&& 31)) i = decide (i = c) := by
  rw [b_shl c hc 1 hi, hb_1 (by omega)]
  rcases Nat.lt_trichotomy i c with h | h | h
  · rw [decide_eq_false (show ¬ c ≤ i by omega), decide_eq_false (show ¬ i = c by omega), Bool.false_and]
  · subst h; simp
  · rw [decide_eq_false (show ¬ i - c = 0 by omega), decide_eq_false (show ¬ i = c by omega), Bool.and_false]
def hn_sum (f : Nat → Nat) : Nat → Nat
  | 0 => 0
  | n + 1 => hn_sum f n + f n
theorem hn_sum_congr {f g : Nat → Nat} : ∀ {n : Nat}, (∀ i, i < n → f i = g i) → hn_sum f n = hn_sum g n := by
  intro n
  induction n with
  | zero => intro _; rfl
  | succ n ih =>
    intro h
    show hn_sum f n + f n = hn_sum g n + g n
    rw [ih (fun i hi => h i (by omega)), h n (by omega)]
theorem hn_sum_le {f : Nat → Nat} {c : Nat} (h : ∀ i, f i ≤ c) : ∀ n : Nat, hn_sum f n ≤ c * n := by
  intro n
  induction n with
  | zero => exact Nat.zero_le _
  | succ n ih =>
    show hn_sum f n + f n ≤ c * (n + 1)
    have := h n
    rw [Nat.mul_succ]
    omega
theorem hn_sum_one {f g : Nat → Nat} {j : Nat} : ∀ {n : Nat}, j < n → (∀ i, i ≠ j → g i = f i) → g j + 1 = f j → hn_sum g n + 1 = hn_sum f n := by
  intro n
  induction n with
  | zero => intro h; omega
  | succ n ih =>
    intro h h1 h2
    show hn_sum g n + g n + 1 = hn_sum f n + f n
    by_cases hj : j = n
    · subst hj
      have e : hn_sum g j = hn_sum f j := hn_sum_congr (fun i hi => h1 i (by omega))
      omega
    · have := ih (by omega) h1 h2
      have e := h1 n (fun q => hj q.symm)
      omega
def hm_cu (x : Int32) : Nat := hn_sum (fun z => if bt x z = true then 0 else 1) 12
def hm_un (S : Nat → Int32) : Nat := hn_sum (fun i => hm_cu (S i)) 144
def hm_ok (Y : HF) : Prop := Y.2.2 + hm_un Y.1 ≤ 1728
def hm_mu (Y : HF) : Nat := 2 * hm_un Y.1 + Y.2.2
theorem hm_cu_le (x : Int32) : hm_cu x ≤ 12 := by
  have := hn_sum_le (f := fun z => if bt x z = true then 0 else 1) (c := 1) (fun i => by split <;> omega) 12
  unfold hm_cu
  omega
theorem hm_ok0 {S P : Nat → Int32} : hm_ok (S, P, 0) := by
  have := hn_sum_le (f := fun i => hm_cu (S i)) (c := 12) (fun i => hm_cu_le _) 144
  unfold hm_ok hm_un
  simp only
  omega
theorem hm_cu_set {x : Int32} {c : Nat} (hc : c < 12) (h : bt x c = false) : hm_cu (x ||| ((1 : Int32) <<< (nI c &&& 31))) + 1 = hm_cu x := by
  have key : hn_sum (fun z => if z < 12 then (if bt (x ||| ((1 : Int32) <<< (nI c &&& 31))) z = true then 0 else 1) else 0) 12 + 1 = hn_sum (fun z => if z < 12 then (if bt x z = true then 0 else 1) else 0) 12 := by
    refine hn_sum_one (j := c) hc (fun i hi => ?_) ?_
    · by_cases h12 : i < 12
      · simp only [h12, if_true]
        rw [b_or, hb_pow (by omega) (by omega), decide_eq_false hi, Bool.or_false]
      · simp only [h12, if_false]
    · simp only [hc, if_true]
      rw [b_or, hb_pow (by omega) (by omega), h]
      simp
  have e1 : hm_cu (x ||| ((1 : Int32) <<< (nI c &&& 31))) = hn_sum (fun z => if z < 12 then (if bt (x ||| ((1 : Int32) <<< (nI c &&& 31))) z = true then 0 else 1) else 0) 12 := hn_sum_congr (fun i hi => by rw [if_pos hi])
  have e2 : hm_cu x = hn_sum (fun z => if z < 12 then (if bt x z = true then 0 else 1) else 0) 12 := hn_sum_congr (fun i hi => by rw [if_pos hi])
  rw [e1, e2]
  exact key
theorem hm_new_un {bi : Nat → Int32} {s : Nat} {w x y z : Int32} {Y : HF} (h : hm_new bi s w Y x y z = true) : hm_un (hm_see bi s w x y z Y).1 + 1 = hm_un Y.1 ∧ (hm_see bi s w x y z Y).2.2 = Y.2.2 + 1 := by
  rw [hm_see_yes h]
  refine ⟨?_, rfl⟩
  simp only [hm_new, Bool.and_eq_true, Bool.not_eq_true', decide_eq_false_iff_not, decide_eq_true_eq] at h
  obtain ⟨hx, hy, hz, -, hn⟩ := h
  obtain ⟨a, ha, rfl⟩ := hx_in_nat (n := 12) (by decide) hx
  obtain ⟨b, hb, rfl⟩ := hx_in_nat (n := 12) (by decide) hy
  obtain ⟨c, hc, rfl⟩ := hx_in_nat (n := 12) (by decide) hz
  have e : 12 * nI a + nI b = nI (12 * a + b) := by
    show nI 12 * nI a + nI b = _
    rw [pk_mul, nI_add]
  rw [e, nI_clamp (by omega)] at hn ⊢
  rw [hb_test _ (by omega)] at hn
  unfold hm_un
  refine hn_sum_one (j := 12 * a + b) (by omega) (fun i hi => ?_) ?_
  · simp only [upd, hi, if_false]
  · simp only [upd, if_true]
    exact hm_cu_set hc (Bool.eq_false_iff.mpr hn)
theorem hm_room {bi : Nat → Int32} {s : Nat} {w x y z : Int32} {Y : HF} (hok : hm_ok Y) (h : hm_new bi s w Y x y z = true) : Y.2.2 < 1728 := by
  have h1 := (hm_new_un h).1
  unfold hm_ok at hok
  omega
theorem hm_see_both {bi : Nat → Int32} {s : Nat} {w x y z : Int32} {Y : HF} : (hm_ok Y → hm_ok (hm_see bi s w x y z Y)) ∧ hm_mu (hm_see bi s w x y z Y) ≤ hm_mu Y := by
  cases h : hm_new bi s w Y x y z with
  | false => rw [hm_see_no h]; exact ⟨fun q => q, Nat.le_refl _⟩
  | true =>
    obtain ⟨h1, h2⟩ := hm_new_un h
    unfold hm_ok hm_mu
    exact ⟨fun q => by omega, by omega⟩
theorem hm_see_ok {bi : Nat → Int32} {s : Nat} {w x y z : Int32} {Y : HF} (h : hm_ok Y) : hm_ok (hm_see bi s w x y z Y) := hm_see_both.1 h
theorem hm_one_ok {bi : Nat → Int32} {s : Nat} {w : Int32} {Y : HF} (h : hm_ok Y) : hm_ok (hm_one bi s w Y) := hm_see_ok (hm_see_ok (hm_see_ok (hm_see_ok (hm_see_ok (hm_see_ok h)))))
theorem hm_one_mu {bi : Nat → Int32} {s : Nat} {w : Int32} {Y : HF} : hm_mu (hm_one bi s w Y) ≤ hm_mu Y := Nat.le_trans hm_see_both.2 (Nat.le_trans hm_see_both.2 (Nat.le_trans hm_see_both.2 (Nat.le_trans hm_see_both.2 (Nat.le_trans hm_see_both.2 hm_see_both.2))))
theorem hm_mu_lt {Y : HF} (h : hm_ok Y) : hm_mu Y < 5185 := by
  unfold hm_ok at h
  unfold hm_mu
  omega
theorem hm_lt31 {Y : HF} (h : hm_ok Y) : Y.2.2 < 2 ^ 31 := by
  unfold hm_ok at h
  omega
def hsW (g : Nat → Nat) (cI cC : ClassId) (cols : Nat → Nat → Int32) (sol oth : Nat → Nat) (out : Nat) (num : Nat → Int32) (od dn tb : Int32) (lf tk : Nat → Int32) (en : Int32) (m0 m1 m2 m3 m4 : Nat × va_E) : va_W :=
  (g 0, .inr (hsHi, [.ref (g 1), .ref (g 2), .ref (g 32), .ref (g 5), .ref (g (13 + out))])) ::
  (g 1, .inl (cC, 6, .inr (.inr (.inr (.inr (fun i => some (g (13 + sol i)))))))) ::
  (g 2, .inr (hsSi, [.ref (g 3), .ref (g 4), .int od, .int dn, .int tb])) ::
  (g 3, .inl (cI, 12, .inl num)) ::
  (g 4, .inl (cC, 12, .inr (.inr (.inr (.inr (fun i => some (g (13 + oth i)))))))) ::
  (g 5, .inr (hsFi, [.ref (g 6), .ref (g 7), .int en])) ::
  (g 6, .inl (cI, 144, .inl lf)) ::
  (g 7, .inl (cI, 1728, .inl tk)) ::
  m0 :: m1 :: m2 :: m3 :: m4 ::
  ((List.range 20).map (fun j => ((g (13 + j), .inr (hsCi, [.ref (g (33 + j))])) : Nat × va_E)) ++ (List.range 20).map (fun j => ((g (33 + j), .inl (cI, 144, .inl (cols j))) : Nat × va_E)))
def hmW (xa xb xc xd xe xf xg xh : Nat × va_E) (tl : va_W) (g : Nat → Nat) (cI : ClassId) (bi wh se pi : Nat → Int32) (dn al tp bd : Int32) : va_W :=
  xa :: xb :: xc :: xd :: xe :: xf :: xg :: xh ::
  (g 8, .inr (hsMi, [.ref (g 9), .int dn, .int al, .ref (g 10), .ref (g 11), .int tp, .ref (g 12), .int bd])) ::
  (g 9, .inl (cI, 4464, .inl bi)) ::
  (g 10, .inl (cI, 12, .inl wh)) ::
  (g 11, .inl (cI, 144, .inl se)) ::
  (g 12, .inl (cI, 1728, .inl pi)) :: tl
section HsWorld
variable {g : Nat → Nat} {cI cC : ClassId} {cols : Nat → Nat → Int32} {sol oth : Nat → Nat} {out : Nat} {num : Nat → Int32} {od dn tb : Int32} {lf tk : Nat → Int32} {en : Int32} {m0 m1 m2 m3 m4 : Nat × va_E}
theorem hs_skip13 (x0 x1 x2 x3 x4 x5 x6 x7 x8 x9 x10 x11 x12 : Nat × va_E) (L : va_W) (j : Nat) : (x0 :: x1 :: x2 :: x3 :: x4 :: x5 :: x6 :: x7 :: x8 :: x9 :: x10 :: x11 :: x12 :: L)[13 + j]? = L[j]? := by
  rw [Nat.add_comm]; rfl
theorem hs_set13 (x0 x1 x2 x3 x4 x5 x6 x7 x8 x9 x10 x11 x12 : Nat × va_E) (L : va_W) (j : Nat) (y : Nat × va_E) : (x0 :: x1 :: x2 :: x3 :: x4 :: x5 :: x6 :: x7 :: x8 :: x9 :: x10 :: x11 :: x12 :: L).set (13 + j) y = x0 :: x1 :: x2 :: x3 :: x4 :: x5 :: x6 :: x7 :: x8 :: x9 :: x10 :: x11 :: x12 :: (L.set j y) := by
  rw [Nat.add_comm]; rfl
theorem hsW_cell {j : Nat} (hj : j < 20) : (hsW g cI cC cols sol oth out num od dn tb lf tk en m0 m1 m2 m3 m4)[13 + j]? = some (g (13 + j), .inr (hsCi, [.ref (g (33 + j))])) := by
  unfold hsW
  rw [hs_skip13, List.getElem?_append_left (by simpa using hj), List.getElem?_map, List.getElem?_range hj]
  rfl
theorem hsW_arr {j : Nat} (hj : j < 20) : (hsW g cI cC cols sol oth out num od dn tb lf tk en m0 m1 m2 m3 m4)[33 + j]? = some (g (33 + j), .inl (cI, 144, .inl (cols j))) := by
  unfold hsW
  rw [show 33 + j = 13 + (20 + j) by omega, hs_skip13, List.getElem?_append_right (by simp)]
  simp only [List.length_map, List.length_range, Nat.add_sub_cancel_left]
  rw [List.getElem?_map, List.getElem?_range hj]
  simp only [Option.map_some, ← Nat.add_assoc]
theorem hsW_set {j : Nat} (hj : j < 20) (F : Nat → Int32) : (hsW g cI cC cols sol oth out num od dn tb lf tk en m0 m1 m2 m3 m4).set (33 + j) (g (33 + j), .inl (cI, 144, .inl F)) = hsW g cI cC (va_up cols j F) sol oth out num od dn tb lf tk en m0 m1 m2 m3 m4 := by
  unfold hsW
  rw [show 33 + j = 13 + (20 + j) by omega, hs_set13, List.set_append_right _ _ (by simp)]
  simp only [List.length_map, List.length_range, Nat.add_sub_cancel_left]
  have e : ((List.range 20).map (fun i => ((g (33 + i), .inl (cI, 144, .inl (cols i))) : Nat × va_E))).set j (g (13 + (20 + j)), .inl (cI, 144, .inl F)) = (List.range 20).map (fun i => ((g (33 + i), .inl (cI, 144, .inl (va_up cols j F i))) : Nat × va_E)) := by
    apply List.ext_getElem?
    intro n
    rw [List.getElem?_set]
    simp only [List.length_map, List.length_range]
    by_cases h1 : j = n
    · subst h1
      rw [if_pos rfl, if_pos hj, List.getElem?_map, List.getElem?_range hj]
      simp only [Option.map_some, va_up_self, ← Nat.add_assoc]
    · rw [if_neg h1]
      by_cases h2 : n < 20
      · rw [List.getElem?_map, List.getElem?_map, List.getElem?_range h2]
        simp only [Option.map_some]
        rw [va_up_ne _ _ (fun q => h1 q.symm)]
      · rw [List.getElem?_eq_none (by simp; omega), List.getElem?_eq_none (by simp; omega)]
  rw [e]
end HsWorld
def hsStep (g : Nat → Nat) (cI cC : ClassId) (cols : Nat → Nat → Int32) (sol oth : Nat → Nat) (out : Nat) (num : Nat → Int32) (o d : Nat) (lf tk : Nat → Int32) (en : Int32) (m0 m1 m2 m3 m4 : Nat × va_E) (i : Nat) (F : Nat → Int32) : va_W :=
  hsW g cI cC (va_up cols out F) (va_up sol i out) (va_up oth (hq_p o d) (sol i)) (oth (hq_p o d)) (upd num (hq_p o d) (nI i)) (nI (hq_o o d)) (nI (hq_d d + 1)) 0 lf tk en m0 m1 m2 m3 m4
