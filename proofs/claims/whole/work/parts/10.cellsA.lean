abbrev rX1_column : Room := { frames := 1, cells := 0, slots := 0, locals := 20 }
set_option maxHeartbeats 1000000 in
set_option maxRecDepth 100000 in
theorem k_X1_column (l : Launch) (D : va_G) (cI cC : ClassId) (ws : va_W) (q qa k a : Nat) (f : Nat → Int32) (hk : ws[q]? = some (k, .inr (hsCi, [.ref a]))) (ha : ws[qa]? = some (a, .inl (cI, 144, .inl f))) (x0 : Int32) (y0 : Int32) : hsI l yX1_column wsX1_column rX1_column D vwCl (hsT cI cC) [.ref k, .int x0, .int y0] ws (fun r w => r = hx_col f x0 y0 ∧ w = ws) := by
  refine hsI.enter (cc := cX1_column) (maxL := 3) (ret := (some .int)) (by decide) rfl (Nat.le_of_ble_eq_true rfl) ?_
  intro Pg En Ss Mi Ar Be Me Co AA QQ hQ h hr hlk
  refine hs_lv (lv' := [(0, .ref k), (1, .int x0), (2, .int y0)]) rfl ?_
  refine hv_iload_n h dX1_column_0 1 rfl rfl ?_
  refine hv_callp (ws' := ws) (v := hx_b (hx_in x0 12)) h (hr_SNi (n := 1) (rest := []) h (k_X0_isCoordinate l D cI cC ws x0) (List.mem_of_getElem? (i := 0) rfl) w_static_X0_isCoordinate w_initialized_X0 w_code_X0_isCoordinate (by decide +kernel) rfl rfl rfl ⟨by decide, by decide⟩ rfl (Nat.le_of_ble_eq_true rfl) ⟨Nat.zero_le _, Nat.zero_le _⟩ dX1_column_1) ?_
  refine hv_bif_eq h 28 dX1_column_4 rfl (fun c4 => ?_) (fun c4 => ?_)
  · refine hv_iconst h (0) dX1_column_28 (by decide) ?_
    exact hv_iret h hr hlk hQ dX1_column_29 ⟨(by first | with_reducible rfl | simp [hx_b, hx_col, c4]), rfl⟩
  · refine hv_iload_n h dX1_column_7 2 rfl rfl ?_
    refine hv_callp (ws' := ws) (v := hx_b (hx_in y0 12)) h (hr_SNi (n := 1) (rest := []) h (k_X0_isCoordinate l D cI cC ws y0) (List.mem_of_getElem? (i := 0) rfl) w_static_X0_isCoordinate w_initialized_X0 w_code_X0_isCoordinate (by decide +kernel) rfl rfl rfl ⟨by decide, by decide⟩ rfl (Nat.le_of_ble_eq_true rfl) ⟨Nat.zero_le _, Nat.zero_le _⟩ dX1_column_8) ?_
    refine hv_bif_eq h 28 dX1_column_11 rfl (fun c11 => ?_) (fun c11 => ?_)
    · refine hv_iconst h (0) dX1_column_28 (by decide) ?_
      exact hv_iret h hr hlk hQ dX1_column_29 ⟨(by first | with_reducible rfl | simp [hx_b, hx_col, c4, c11]), rfl⟩
    · refine hv_aload_n h dX1_column_14 0 rfl rfl ?_
      refine hv_get (C := RX1) (T := TX1) (N := 1) h q hk rfl 0 (by decide) wu_X1 w_fieldLink_X1_9 (fun _ h9 => h9) rfl dX1_column_15 ?_
      refine hv_iload_n h dX1_column_18 1 rfl rfl ?_
      refine hv_bipush h (12) dX1_column_19 (by decide) ?_
      refine hv_imul h dX1_column_21 ?_
      refine hv_iload_n h dX1_column_22 2 rfl rfl ?_
      refine hv_iadd h dX1_column_23 ?_
      refine hv_iald (v := f ((x0 * 12) + y0).toNatClampNeg) h qa 0 ha rfl (hx_col_vp c4 c11) rfl dX1_column_24 ?_
      refine hv_goto h 29 dX1_column_25 rfl ?_
      exact hv_iret h hr hlk hQ dX1_column_29 ⟨(by first | with_reducible rfl | simp [hx_b, hx_col, c4, c11]), rfl⟩
abbrev rX1_columnAlong : Room := { frames := 2, cells := 0, slots := 0, locals := 42 }
set_option maxHeartbeats 1000000 in
set_option maxRecDepth 100000 in
theorem k_X1_columnAlong (l : Launch) (D : va_G) (cI cC : ClassId) (ws : va_W) (q qa k a : Nat) (f : Nat → Int32) (hk : ws[q]? = some (k, .inr (hsCi, [.ref a]))) (ha : ws[qa]? = some (a, .inl (cI, 144, .inl f))) (ax : Int32) (u0 : Int32) (v0 : Int32) : hsI l yX1_columnAlong wsX1_columnAlong rX1_columnAlong D vwCl (hsT cI cC) [.ref k, .int ax, .int u0, .int v0] ws (fun r w => r = hx_al f ax u0 v0 ∧ w = ws) := by
  refine hsI.enter (cc := cX1_columnAlong) (maxL := 7) (ret := (some .int)) (by decide) rfl (Nat.le_of_ble_eq_true rfl) ?_
  intro Pg En Ss Mi Ar Be Me Co AA QQ hQ h hr hlk
  refine hs_lv (lv' := [(0, .ref k), (1, .int ax), (2, .int u0), (3, .int v0)]) rfl ?_
  refine hv_iload_n h dX1_columnAlong_0 1 rfl rfl ?_
  refine hv_iconst h (2) dX1_columnAlong_1 (by decide) ?_
  refine hv_icmp_ne h 12 dX1_columnAlong_2 rfl (fun c2 => ?_) (fun c2 => ?_)
  · refine hv_iload_n h dX1_columnAlong_12 3 rfl rfl ?_
    refine hv_callp (ws' := ws) (v := hx_b (hx_in v0 12)) h (hr_SNi (n := 1) (rest := []) h (k_X0_isCoordinate l D cI cC ws v0) (List.mem_of_getElem? (i := 0) rfl) w_static_X0_isCoordinate w_initialized_X0 w_code_X0_isCoordinate (by decide +kernel) rfl rfl rfl ⟨by decide, by decide⟩ rfl (Nat.le_of_ble_eq_true rfl) ⟨Nat.zero_le _, Nat.zero_le _⟩ dX1_columnAlong_13) ?_
    refine hv_bif_ne h 21 dX1_columnAlong_16 rfl (fun c16 => ?_) (fun c16 => ?_)
    · refine hv_iconst h (0) dX1_columnAlong_21 (by decide) ?_
      refine hv_istore h [(4, .int 0), (0, .ref k), (1, .int ax), (2, .int u0), (3, .int v0)] dX1_columnAlong_22 (by decide) rfl ?_
      refine hv_iconst h (nI 0) dX1_columnAlong_24 (by decide) ?_
      refine hv_istore h [(5, .int (nI 0)), (4, .int 0), (0, .ref k), (1, .int ax), (2, .int u0), (3, .int v0)] dX1_columnAlong_25 (by decide) rfl ?_
      have L27 : ∀ d27 i27 : Nat, i27 + d27 = 12 → ∀ (b4 : Int32), b4 = hx_it (fun c b => b ||| ((((if ax = 0 then hx_col f (nI c) u0 else hx_col f u0 (nI c)) >>> (v0 &&& 31)) &&& 1) <<< (nI c &&& 31))) i27 0 → hsV Pg l En rX1_columnAlong Ss Mi Ar Be Me Co QQ 7 D vwCl AA Ss.heap 0 0 27 [(5, .int (nI i27)), (4, .int b4), (0, .ref k), (1, .int ax), (2, .int u0), (3, .int v0)] ws [] := by
        intro d27
        induction d27 with
        | zero =>
          intro i27 kq27 b4 e_b4
          obtain rfl : i27 = 12 := by omega
          refine hv_iload h dX1_columnAlong_27 0 rfl ?_
          refine hv_bipush h (nI 12) dX1_columnAlong_29 (by decide) ?_
          refine hv_icmp_ge h 77 dX1_columnAlong_31 rfl (fun c31 => ?_) (fun hc => absurd (Int32.le_refl _) hc)
          refine hv_iload h dX1_columnAlong_77 1 rfl ?_
          exact hv_iret h hr hlk hQ dX1_columnAlong_79 ⟨(by rw [e_b4]; simp [hx_b, hx_al, c2, c16, c31]), rfl⟩
        | succ d27 ih27 =>
          intro i27 kq27 b4 e_b4
          have hlt27 : i27 < 12 := by omega
          refine hv_iload h dX1_columnAlong_27 0 rfl ?_
          refine hv_bipush h (nI 12) dX1_columnAlong_29 (by decide) ?_
          refine hv_icmp_ge h 77 dX1_columnAlong_31 rfl (fun hc => absurd hc (nI_ge hlt27 (by decide))) (fun c31 => ?_)
          refine hv_iload_n h dX1_columnAlong_34 3 rfl rfl ?_
          refine hv_if_ne h 48 dX1_columnAlong_35 rfl (fun c35 => ?_) (fun c35 => ?_)
          · refine hv_aload_n h dX1_columnAlong_48 2 rfl rfl ?_
            refine hv_iload_n h dX1_columnAlong_49 4 rfl rfl ?_
            refine hv_iload h dX1_columnAlong_50 0 rfl ?_
            refine hv_callp (ws' := ws) (v := hx_col f u0 (nI i27)) h (hr_Vi (n := 2) (rest := []) h q hk rfl (k_X1_column l D cI cC ws q qa k a f hk ha u0 (nI i27)) w_methodLink_X1_19 w_instanceMethod_X1_column w_selects_X1_column w_initialized_X1 w_code_X1_column (by decide +kernel) rfl rfl rfl ⟨by decide, by decide⟩ rfl (Nat.le_of_ble_eq_true rfl) ⟨Nat.zero_le _, Nat.zero_le _⟩ dX1_columnAlong_52) ?_
            refine hv_istore h [(6, .int (hx_col f u0 (nI i27))), (5, .int (nI i27)), (4, .int b4), (0, .ref k), (1, .int ax), (2, .int u0), (3, .int v0)] dX1_columnAlong_55 (by decide) rfl ?_
            refine hv_iload h dX1_columnAlong_57 2 rfl ?_
            refine hv_iload h dX1_columnAlong_59 0 rfl ?_
            refine hv_iload_n h dX1_columnAlong_61 6 rfl rfl ?_
            refine hv_ishr h dX1_columnAlong_62 ?_
            refine hv_iconst h (1) dX1_columnAlong_63 (by decide) ?_
            refine hv_iand h dX1_columnAlong_64 ?_
            refine hv_iload h dX1_columnAlong_65 1 rfl ?_
            refine hv_ishl h dX1_columnAlong_67 ?_
            refine hv_ior h dX1_columnAlong_68 ?_
            refine hv_istore h [(4, .int (b4 ||| ((((hx_col f u0 (nI i27)) >>> (v0 &&& 31)) &&& 1) <<< ((nI i27) &&& 31)))), (6, .int (hx_col f u0 (nI i27))), (5, .int (nI i27)), (0, .ref k), (1, .int ax), (2, .int u0), (3, .int v0)] dX1_columnAlong_69 (by decide) rfl ?_
            refine hv_iinc h (nI (i27 + 1)) [(5, .int (nI (i27 + 1))), (4, .int (b4 ||| ((((hx_col f u0 (nI i27)) >>> (v0 &&& 31)) &&& 1) <<< ((nI i27) &&& 31)))), (6, .int (hx_col f u0 (nI i27))), (0, .ref k), (1, .int ax), (2, .int u0), (3, .int v0)] dX1_columnAlong_71 2 rfl (hs_inc _) (by decide) rfl ?_
            refine hv_goto h 27 dX1_columnAlong_74 rfl ?_
            refine hs_pick (lv' := [(5, .int (nI (i27 + 1))), (4, .int (b4 ||| ((((hx_col f u0 (nI i27)) >>> (v0 &&& 31)) &&& 1) <<< ((nI i27) &&& 31)))), (0, .ref k), (1, .int ax), (2, .int u0), (3, .int v0)]) [0, 1, 3, 4, 5, 6] rfl ?_
            exact ih27 (i27 + 1) (by omega) _ (by rw [hx_it_s, ← e_b4]; try first | assumption | with_reducible rfl | (simp [c2, c16, c31, c35]; done))
          · refine hv_aload_n h dX1_columnAlong_38 2 rfl rfl ?_
            refine hv_iload h dX1_columnAlong_39 0 rfl ?_
            refine hv_iload_n h dX1_columnAlong_41 4 rfl rfl ?_
            refine hv_callp (ws' := ws) (v := hx_col f (nI i27) u0) h (hr_Vi (n := 2) (rest := []) h q hk rfl (k_X1_column l D cI cC ws q qa k a f hk ha (nI i27) u0) w_methodLink_X1_19 w_instanceMethod_X1_column w_selects_X1_column w_initialized_X1 w_code_X1_column (by decide +kernel) rfl rfl rfl ⟨by decide, by decide⟩ rfl (Nat.le_of_ble_eq_true rfl) ⟨Nat.zero_le _, Nat.zero_le _⟩ dX1_columnAlong_42) ?_
            refine hv_goto h 55 dX1_columnAlong_45 rfl ?_
            refine hv_istore h [(6, .int (hx_col f (nI i27) u0)), (5, .int (nI i27)), (4, .int b4), (0, .ref k), (1, .int ax), (2, .int u0), (3, .int v0)] dX1_columnAlong_55 (by decide) rfl ?_
            refine hv_iload h dX1_columnAlong_57 2 rfl ?_
            refine hv_iload h dX1_columnAlong_59 0 rfl ?_
            refine hv_iload_n h dX1_columnAlong_61 6 rfl rfl ?_
            refine hv_ishr h dX1_columnAlong_62 ?_
            refine hv_iconst h (1) dX1_columnAlong_63 (by decide) ?_
            refine hv_iand h dX1_columnAlong_64 ?_
            refine hv_iload h dX1_columnAlong_65 1 rfl ?_
            refine hv_ishl h dX1_columnAlong_67 ?_
            refine hv_ior h dX1_columnAlong_68 ?_
            refine hv_istore h [(4, .int (b4 ||| ((((hx_col f (nI i27) u0) >>> (v0 &&& 31)) &&& 1) <<< ((nI i27) &&& 31)))), (6, .int (hx_col f (nI i27) u0)), (5, .int (nI i27)), (0, .ref k), (1, .int ax), (2, .int u0), (3, .int v0)] dX1_columnAlong_69 (by decide) rfl ?_
            refine hv_iinc h (nI (i27 + 1)) [(5, .int (nI (i27 + 1))), (4, .int (b4 ||| ((((hx_col f (nI i27) u0) >>> (v0 &&& 31)) &&& 1) <<< ((nI i27) &&& 31)))), (6, .int (hx_col f (nI i27) u0)), (0, .ref k), (1, .int ax), (2, .int u0), (3, .int v0)] dX1_columnAlong_71 2 rfl (hs_inc _) (by decide) rfl ?_
            refine hv_goto h 27 dX1_columnAlong_74 rfl ?_
            refine hs_pick (lv' := [(5, .int (nI (i27 + 1))), (4, .int (b4 ||| ((((hx_col f (nI i27) u0) >>> (v0 &&& 31)) &&& 1) <<< ((nI i27) &&& 31)))), (0, .ref k), (1, .int ax), (2, .int u0), (3, .int v0)]) [0, 1, 3, 4, 5, 6] rfl ?_
            exact ih27 (i27 + 1) (by omega) _ (by rw [hx_it_s, ← e_b4]; try first | assumption | with_reducible rfl | (simp [c2, c16, c31, c35]; done))
      exact L27 12 0 (by omega) _ rfl
    · refine hv_iconst h (0) dX1_columnAlong_19 (by decide) ?_
      exact hv_iret h hr hlk hQ dX1_columnAlong_20 ⟨(by first | with_reducible rfl | simp [hx_b, hx_al, c2, c16]), rfl⟩
  · refine hv_aload_n h dX1_columnAlong_5 0 rfl rfl ?_
    refine hv_iload_n h dX1_columnAlong_6 2 rfl rfl ?_
    refine hv_iload_n h dX1_columnAlong_7 3 rfl rfl ?_
    refine hv_callp (ws' := ws) (v := hx_col f u0 v0) h (hr_Vi (n := 2) (rest := []) h q hk rfl (k_X1_column l D cI cC ws q qa k a f hk ha u0 v0) w_methodLink_X1_19 w_instanceMethod_X1_column w_selects_X1_column w_initialized_X1 w_code_X1_column (by decide +kernel) rfl rfl rfl ⟨by decide, by decide⟩ rfl (Nat.le_of_ble_eq_true rfl) ⟨Nat.zero_le _, Nat.zero_le _⟩ dX1_columnAlong_8) ?_
    exact hv_iret h hr hlk hQ dX1_columnAlong_11 ⟨(by first | with_reducible rfl | simp [hx_b, hx_al, c2]), rfl⟩
abbrev rX1_countCells : Room := { frames := 1, cells := 0, slots := 0, locals := 20 }
set_option maxHeartbeats 1000000 in
set_option maxRecDepth 100000 in
theorem k_X1_countCells (l : Launch) (D : va_G) (cI cC : ClassId) (ws : va_W) (q qa k a : Nat) (f : Nat → Int32) (hk : ws[q]? = some (k, .inr (hsCi, [.ref a]))) (ha : ws[qa]? = some (a, .inl (cI, 144, .inl f)))  : hsI l yX1_countCells wsX1_countCells rX1_countCells D vwCl (hsT cI cC) [.ref k] ws (fun r w => r = hx_cnt f ∧ w = ws) := by
  refine hsI.enter (cc := cX1_countCells) (maxL := 3) (ret := (some .int)) (by decide) rfl (Nat.le_of_ble_eq_true rfl) ?_
  intro Pg En Ss Mi Ar Be Me Co AA QQ hQ h hr hlk
  refine hs_lv (lv' := [(0, .ref k)]) rfl ?_
  refine hv_iconst h (0) dX1_countCells_0 (by decide) ?_
  refine hv_istore_n h [(1, .int 0), (0, .ref k)] dX1_countCells_1 rfl (by decide) rfl ?_
  refine hv_iconst h (nI 0) dX1_countCells_2 (by decide) ?_
  refine hv_istore_n h [(2, .int (nI 0)), (1, .int 0), (0, .ref k)] dX1_countCells_3 rfl (by decide) rfl ?_
  have L4 : ∀ d4 i4 : Nat, i4 + d4 = 144 → ∀ (b1 : Int32), b1 = hx_it (fun i n => n + hj_bc (f i)) i4 0 → hsV Pg l En rX1_countCells Ss Mi Ar Be Me Co QQ 3 D vwCl AA Ss.heap 0 0 4 [(2, .int (nI i4)), (1, .int b1), (0, .ref k)] ws [] := by
    intro d4
    induction d4 with
    | zero =>
      intro i4 kq4 b1 e_b1
      obtain rfl : i4 = 144 := by omega
      refine hv_iload_n h dX1_countCells_4 0 rfl rfl ?_
      refine hv_sipush h (nI 144) dX1_countCells_5 (by decide) ?_
      refine hv_icmp_ge h 29 dX1_countCells_8 rfl (fun c8 => ?_) (fun hc => absurd (Int32.le_refl _) hc)
      refine hv_iload_n h dX1_countCells_29 1 rfl rfl ?_
      exact hv_iret h hr hlk hQ dX1_countCells_30 ⟨(by rw [e_b1]; rfl), rfl⟩
    | succ d4 ih4 =>
      intro i4 kq4 b1 e_b1
      have hlt4 : i4 < 144 := by omega
      refine hv_iload_n h dX1_countCells_4 0 rfl rfl ?_
      refine hv_sipush h (nI 144) dX1_countCells_5 (by decide) ?_
      refine hv_icmp_ge h 29 dX1_countCells_8 rfl (fun hc => absurd hc (nI_ge hlt4 (by decide))) (fun c8 => ?_)
      refine hv_iload_n h dX1_countCells_11 1 rfl rfl ?_
      refine hv_aload_n h dX1_countCells_12 2 rfl rfl ?_
      refine hv_get (C := RX1) (T := TX1) (N := 1) h q hk rfl 0 (by decide) wu_X1 w_fieldLink_X1_9 (fun _ h9 => h9) rfl dX1_countCells_13 ?_
      refine hv_iload_n h dX1_countCells_16 0 rfl rfl ?_
      refine hv_iald (v := f i4) h qa 0 ha rfl (vp_in_nI (by omega) (by decide)) (by rw [nI_clamp (by omega)]) dX1_countCells_17 ?_
      refine hv_callp (ws' := ws) (v := hj_bc (f i4)) h (hr_Si (n := 1) (rest := [.int b1]) h (k_X5_bitCount l D cI cC ws (f i4)) w_methodLink_X1_40 w_static_X5_bitCount w_initialized_X5 w_code_X5_bitCount (by decide +kernel) rfl rfl rfl ⟨by decide, by decide⟩ rfl (Nat.le_of_ble_eq_true rfl) ⟨Nat.zero_le _, Nat.zero_le _⟩ dX1_countCells_18) ?_
      refine hv_iadd h dX1_countCells_21 ?_
      refine hv_istore_n h [(1, .int (b1 + (hj_bc (f i4)))), (2, .int (nI i4)), (0, .ref k)] dX1_countCells_22 rfl (by decide) rfl ?_
      refine hv_iinc h (nI (i4 + 1)) [(2, .int (nI (i4 + 1))), (1, .int (b1 + (hj_bc (f i4)))), (0, .ref k)] dX1_countCells_23 1 rfl (hs_inc _) (by decide) rfl ?_
      refine hv_goto h 4 dX1_countCells_26 rfl ?_
      exact ih4 (i4 + 1) (by omega) _ (by rw [hx_it_s, ← e_b1]; try first | assumption | with_reducible rfl | (simp [c8]; done))
  exact L4 144 0 (by omega) _ rfl
abbrev rX1_countLayer : Room := { frames := 3, cells := 0, slots := 0, locals := 68 }
set_option maxHeartbeats 1000000 in
set_option maxRecDepth 100000 in
theorem k_X1_countLayer (l : Launch) (D : va_G) (cI cC : ClassId) (ws : va_W) (q qa k a : Nat) (f : Nat → Int32) (hk : ws[q]? = some (k, .inr (hsCi, [.ref a]))) (ha : ws[qa]? = some (a, .inl (cI, 144, .inl f))) (ax : Int32) (w0 : Int32) : hsI l yX1_countLayer wsX1_countLayer rX1_countLayer D vwCl (hsT cI cC) [.ref k, .int ax, .int w0] ws (fun r w => r = hx_layer f ax w0 ∧ w = ws) := by
  refine hsI.enter (cc := cX1_countLayer) (maxL := 5) (ret := (some .int)) (by decide) rfl (Nat.le_of_ble_eq_true rfl) ?_
  intro Pg En Ss Mi Ar Be Me Co AA QQ hQ h hr hlk
  refine hs_lv (lv' := [(0, .ref k), (1, .int ax), (2, .int w0)]) rfl ?_
  refine hv_iconst h (0) dX1_countLayer_0 (by decide) ?_
  refine hv_istore_n h [(3, .int 0), (0, .ref k), (1, .int ax), (2, .int w0)] dX1_countLayer_1 rfl (by decide) rfl ?_
  refine hv_iconst h (nI 0) dX1_countLayer_2 (by decide) ?_
  refine hv_istore h [(4, .int (nI 0)), (3, .int 0), (0, .ref k), (1, .int ax), (2, .int w0)] dX1_countLayer_3 (by decide) rfl ?_
  have L5 : ∀ d5 i5 : Nat, i5 + d5 = 12 → ∀ (b3 : Int32), b3 = hx_it (fun i n => n + hj_bc (if ax = 0 then hx_col f w0 (nI i) else if ax = 1 then hx_col f (nI i) w0 else hx_al f 0 (nI i) w0)) i5 0 → hsV Pg l En rX1_countLayer Ss Mi Ar Be Me Co QQ 5 D vwCl AA Ss.heap 0 0 5 [(4, .int (nI i5)), (3, .int b3), (0, .ref k), (1, .int ax), (2, .int w0)] ws [] := by
    intro d5
    induction d5 with
    | zero =>
      intro i5 kq5 b3 e_b3
      obtain rfl : i5 = 12 := by omega
      refine hv_iload h dX1_countLayer_5 0 rfl ?_
      refine hv_bipush h (nI 12) dX1_countLayer_7 (by decide) ?_
      refine hv_icmp_ge h 73 dX1_countLayer_9 rfl (fun c9 => ?_) (fun hc => absurd (Int32.le_refl _) hc)
      refine hv_iload_n h dX1_countLayer_73 1 rfl rfl ?_
      exact hv_iret h hr hlk hQ dX1_countLayer_74 ⟨(by rw [e_b3]; rfl), rfl⟩
    | succ d5 ih5 =>
      intro i5 kq5 b3 e_b3
      have hlt5 : i5 < 12 := by omega
      refine hv_iload h dX1_countLayer_5 0 rfl ?_
      refine hv_bipush h (nI 12) dX1_countLayer_7 (by decide) ?_
      refine hv_icmp_ge h 73 dX1_countLayer_9 rfl (fun hc => absurd hc (nI_ge hlt5 (by decide))) (fun c9 => ?_)
      refine hv_iload_n h dX1_countLayer_12 3 rfl rfl ?_
      refine hv_if_ne h 32 dX1_countLayer_13 rfl (fun c13 => ?_) (fun c13 => ?_)
      · refine hv_iload_n h dX1_countLayer_32 3 rfl rfl ?_
        refine hv_iconst h (1) dX1_countLayer_33 (by decide) ?_
        refine hv_icmp_ne h 53 dX1_countLayer_34 rfl (fun c34 => ?_) (fun c34 => ?_)
        · refine hv_iload_n h dX1_countLayer_53 1 rfl rfl ?_
          refine hv_aload_n h dX1_countLayer_54 2 rfl rfl ?_
          refine hv_iconst h (0) dX1_countLayer_55 (by decide) ?_
          refine hv_iload h dX1_countLayer_56 0 rfl ?_
          refine hv_iload_n h dX1_countLayer_58 4 rfl rfl ?_
          refine hv_callp (ws' := ws) (v := hx_al f 0 (nI i5) w0) h (hr_Vi (n := 3) (rest := [.int b3]) h q hk rfl (k_X1_columnAlong l D cI cC ws q qa k a f hk ha 0 (nI i5) w0) w_methodLink_X1_23 w_instanceMethod_X1_columnAlong w_selects_X1_columnAlong w_initialized_X1 w_code_X1_columnAlong (by decide +kernel) rfl rfl rfl ⟨by decide, by decide⟩ rfl (Nat.le_of_ble_eq_true rfl) ⟨Nat.zero_le _, Nat.zero_le _⟩ dX1_countLayer_59) ?_
          refine hv_callp (ws' := ws) (v := hj_bc (hx_al f 0 (nI i5) w0)) h (hr_Si (n := 1) (rest := [.int b3]) h (k_X5_bitCount l D cI cC ws (hx_al f 0 (nI i5) w0)) w_methodLink_X1_40 w_static_X5_bitCount w_initialized_X5 w_code_X5_bitCount (by decide +kernel) rfl rfl rfl ⟨by decide, by decide⟩ rfl (Nat.le_of_ble_eq_true rfl) ⟨Nat.zero_le _, Nat.zero_le _⟩ dX1_countLayer_62) ?_
          refine hv_iadd h dX1_countLayer_65 ?_
          refine hv_istore_n h [(3, .int (b3 + (hj_bc (hx_al f 0 (nI i5) w0)))), (4, .int (nI i5)), (0, .ref k), (1, .int ax), (2, .int w0)] dX1_countLayer_66 rfl (by decide) rfl ?_
          refine hv_iinc h (nI (i5 + 1)) [(4, .int (nI (i5 + 1))), (3, .int (b3 + (hj_bc (hx_al f 0 (nI i5) w0)))), (0, .ref k), (1, .int ax), (2, .int w0)] dX1_countLayer_67 1 rfl (hs_inc _) (by decide) rfl ?_
          refine hv_goto h 5 dX1_countLayer_70 rfl ?_
          exact ih5 (i5 + 1) (by omega) _ (by rw [hx_it_s, ← e_b3]; try first | assumption | with_reducible rfl | (simp [c9, c13, c34]; done))
        · refine hv_iload_n h dX1_countLayer_37 1 rfl rfl ?_
          refine hv_aload_n h dX1_countLayer_38 2 rfl rfl ?_
          refine hv_iload h dX1_countLayer_39 0 rfl ?_
          refine hv_iload_n h dX1_countLayer_41 4 rfl rfl ?_
          refine hv_callp (ws' := ws) (v := hx_col f (nI i5) w0) h (hr_Vi (n := 2) (rest := [.int b3]) h q hk rfl (k_X1_column l D cI cC ws q qa k a f hk ha (nI i5) w0) w_methodLink_X1_19 w_instanceMethod_X1_column w_selects_X1_column w_initialized_X1 w_code_X1_column (by decide +kernel) rfl rfl rfl ⟨by decide, by decide⟩ rfl (Nat.le_of_ble_eq_true rfl) ⟨Nat.zero_le _, Nat.zero_le _⟩ dX1_countLayer_42) ?_
          refine hv_callp (ws' := ws) (v := hj_bc (hx_col f (nI i5) w0)) h (hr_Si (n := 1) (rest := [.int b3]) h (k_X5_bitCount l D cI cC ws (hx_col f (nI i5) w0)) w_methodLink_X1_40 w_static_X5_bitCount w_initialized_X5 w_code_X5_bitCount (by decide +kernel) rfl rfl rfl ⟨by decide, by decide⟩ rfl (Nat.le_of_ble_eq_true rfl) ⟨Nat.zero_le _, Nat.zero_le _⟩ dX1_countLayer_45) ?_
          refine hv_iadd h dX1_countLayer_48 ?_
          refine hv_istore_n h [(3, .int (b3 + (hj_bc (hx_col f (nI i5) w0)))), (4, .int (nI i5)), (0, .ref k), (1, .int ax), (2, .int w0)] dX1_countLayer_49 rfl (by decide) rfl ?_
          refine hv_goto h 67 dX1_countLayer_50 rfl ?_
          refine hv_iinc h (nI (i5 + 1)) [(4, .int (nI (i5 + 1))), (3, .int (b3 + (hj_bc (hx_col f (nI i5) w0)))), (0, .ref k), (1, .int ax), (2, .int w0)] dX1_countLayer_67 1 rfl (hs_inc _) (by decide) rfl ?_
          refine hv_goto h 5 dX1_countLayer_70 rfl ?_
          exact ih5 (i5 + 1) (by omega) _ (by rw [hx_it_s, ← e_b3]; try first | assumption | with_reducible rfl | (simp [c9, c13, c34]; done))
      · refine hv_iload_n h dX1_countLayer_16 1 rfl rfl ?_
        refine hv_aload_n h dX1_countLayer_17 2 rfl rfl ?_
        refine hv_iload_n h dX1_countLayer_18 4 rfl rfl ?_
        refine hv_iload h dX1_countLayer_19 0 rfl ?_
        refine hv_callp (ws' := ws) (v := hx_col f w0 (nI i5)) h (hr_Vi (n := 2) (rest := [.int b3]) h q hk rfl (k_X1_column l D cI cC ws q qa k a f hk ha w0 (nI i5)) w_methodLink_X1_19 w_instanceMethod_X1_column w_selects_X1_column w_initialized_X1 w_code_X1_column (by decide +kernel) rfl rfl rfl ⟨by decide, by decide⟩ rfl (Nat.le_of_ble_eq_true rfl) ⟨Nat.zero_le _, Nat.zero_le _⟩ dX1_countLayer_21) ?_
        refine hv_callp (ws' := ws) (v := hj_bc (hx_col f w0 (nI i5))) h (hr_Si (n := 1) (rest := [.int b3]) h (k_X5_bitCount l D cI cC ws (hx_col f w0 (nI i5))) w_methodLink_X1_40 w_static_X5_bitCount w_initialized_X5 w_code_X5_bitCount (by decide +kernel) rfl rfl rfl ⟨by decide, by decide⟩ rfl (Nat.le_of_ble_eq_true rfl) ⟨Nat.zero_le _, Nat.zero_le _⟩ dX1_countLayer_24) ?_
        refine hv_iadd h dX1_countLayer_27 ?_
        refine hv_istore_n h [(3, .int (b3 + (hj_bc (hx_col f w0 (nI i5))))), (4, .int (nI i5)), (0, .ref k), (1, .int ax), (2, .int w0)] dX1_countLayer_28 rfl (by decide) rfl ?_
        refine hv_goto h 67 dX1_countLayer_29 rfl ?_
        refine hv_iinc h (nI (i5 + 1)) [(4, .int (nI (i5 + 1))), (3, .int (b3 + (hj_bc (hx_col f w0 (nI i5))))), (0, .ref k), (1, .int ax), (2, .int w0)] dX1_countLayer_67 1 rfl (hs_inc _) (by decide) rfl ?_
        refine hv_goto h 5 dX1_countLayer_70 rfl ?_
        exact ih5 (i5 + 1) (by omega) _ (by rw [hx_it_s, ← e_b3]; try first | assumption | with_reducible rfl | (simp [c9, c13]; done))
  exact L5 12 0 (by omega) _ rfl
abbrev rX1_leastAlong : Room := { frames := 4, cells := 0, slots := 0, locals := 92 }
set_option maxHeartbeats 1000000 in
set_option maxRecDepth 100000 in
theorem k_X1_leastAlong (l : Launch) (D : va_G) (cI cC : ClassId) (ws : va_W) (q qa k a : Nat) (f : Nat → Int32) (hk : ws[q]? = some (k, .inr (hsCi, [.ref a]))) (ha : ws[qa]? = some (a, .inl (cI, 144, .inl f))) (ax : Int32) : hsI l yX1_leastAlong wsX1_leastAlong rX1_leastAlong D vwCl (hsT cI cC) [.ref k, .int ax] ws (fun r w => r = hx_least f ax ∧ w = ws) := by
  refine hsI.enter (cc := cX1_leastAlong) (maxL := 3) (ret := (some .int)) (by decide) rfl (Nat.le_of_ble_eq_true rfl) ?_
  intro Pg En Ss Mi Ar Be Me Co AA QQ hQ h hr hlk
  refine hs_lv (lv' := [(0, .ref k), (1, .int ax)]) rfl ?_
  refine hv_iconst h (nI 0) dX1_leastAlong_0 (by decide) ?_
  refine hv_istore_n h [(2, .int (nI 0)), (0, .ref k), (1, .int ax)] dX1_leastAlong_1 rfl (by decide) rfl ?_
  have L2 : ∀ d2 i2 : Nat, i2 + d2 = 12 → hx_fst (fun w => decide (0 < hx_layer f ax (nI w))) d2 i2 = hx_fst (fun w => decide (0 < hx_layer f ax (nI w))) 12 0 → hsV Pg l En rX1_leastAlong Ss Mi Ar Be Me Co QQ 3 D vwCl AA Ss.heap 0 0 2 [(2, .int (nI i2)), (0, .ref k), (1, .int ax)] ws [] := by
    intro d2
    induction d2 with
    | zero =>
      intro i2 kq2 g
      obtain rfl : i2 = 12 := by omega
      refine hv_iload_n h dX1_leastAlong_2 0 rfl rfl ?_
      refine hv_bipush h (nI 12) dX1_leastAlong_3 (by decide) ?_
      refine hv_icmp_ge h 25 dX1_leastAlong_5 rfl (fun c5 => ?_) (fun hc => absurd (Int32.le_refl _) hc)
      refine hv_bipush h (12) dX1_leastAlong_25 (by decide) ?_
      exact hv_iret h hr hlk hQ dX1_leastAlong_27 ⟨(by unfold hx_least; rw [← g]; rfl), rfl⟩
    | succ d2 ih2 =>
      intro i2 kq2 g
      have hlt2 : i2 < 12 := by omega
      refine hv_iload_n h dX1_leastAlong_2 0 rfl rfl ?_
      refine hv_bipush h (nI 12) dX1_leastAlong_3 (by decide) ?_
      refine hv_icmp_ge h 25 dX1_leastAlong_5 rfl (fun hc => absurd hc (nI_ge hlt2 (by decide))) (fun c5 => ?_)
      refine hv_aload_n h dX1_leastAlong_8 1 rfl rfl ?_
      refine hv_iload_n h dX1_leastAlong_9 2 rfl rfl ?_
      refine hv_iload_n h dX1_leastAlong_10 0 rfl rfl ?_
      refine hv_callp (ws' := ws) (v := hx_layer f ax (nI i2)) h (hr_Vi (n := 2) (rest := []) h q hk rfl (k_X1_countLayer l D cI cC ws q qa k a f hk ha ax (nI i2)) w_methodLink_X1_46 w_instanceMethod_X1_countLayer w_selects_X1_countLayer w_initialized_X1 w_code_X1_countLayer (by decide +kernel) rfl rfl rfl ⟨by decide, by decide⟩ rfl (Nat.le_of_ble_eq_true rfl) ⟨Nat.zero_le _, Nat.zero_le _⟩ dX1_leastAlong_11) ?_
      refine hv_if_le h 19 dX1_leastAlong_14 rfl (fun c14 => ?_) (fun c14 => ?_)
      · refine hv_iinc h (nI (i2 + 1)) [(2, .int (nI (i2 + 1))), (0, .ref k), (1, .int ax)] dX1_leastAlong_19 0 rfl (hs_inc _) (by decide) rfl ?_
        refine hv_goto h 2 dX1_leastAlong_22 rfl ?_
        exact ih2 (i2 + 1) (by omega) (by simpa [hx_fst, Int32.not_lt.mpr c14] using g)
      · refine hv_iload_n h dX1_leastAlong_17 0 rfl rfl ?_
        exact hv_iret h hr hlk hQ dX1_leastAlong_18 ⟨(by unfold hx_least; rw [← g]; simp [hx_fst, Int32.not_le.mp c14]), rfl⟩
  exact L2 12 0 (by omega) rfl
abbrev rX1_greatestAlong : Room := { frames := 4, cells := 0, slots := 0, locals := 92 }
set_option maxHeartbeats 1000000 in
set_option maxRecDepth 100000 in
theorem k_X1_greatestAlong (l : Launch) (D : va_G) (cI cC : ClassId) (ws : va_W) (q qa k a : Nat) (f : Nat → Int32) (hk : ws[q]? = some (k, .inr (hsCi, [.ref a]))) (ha : ws[qa]? = some (a, .inl (cI, 144, .inl f))) (ax : Int32) : hsI l yX1_greatestAlong wsX1_greatestAlong rX1_greatestAlong D vwCl (hsT cI cC) [.ref k, .int ax] ws (fun r w => r = hx_great f ax ∧ w = ws) := by
  refine hsI.enter (cc := cX1_greatestAlong) (maxL := 3) (ret := (some .int)) (by decide) rfl (Nat.le_of_ble_eq_true rfl) ?_
  intro Pg En Ss Mi Ar Be Me Co AA QQ hQ h hr hlk
  refine hs_lv (lv' := [(0, .ref k), (1, .int ax)]) rfl ?_
  refine hv_bipush h (11) dX1_greatestAlong_0 (by decide) ?_
  refine hv_istore_n h [(2, .int 11), (0, .ref k), (1, .int ax)] dX1_greatestAlong_2 rfl (by decide) rfl ?_
  have L3 : ∀ j : Nat, j ≤ 12 → hx_lst (fun w => decide (0 < hx_layer f ax (nI w))) j = hx_lst (fun w => decide (0 < hx_layer f ax (nI w))) 12 → hsV Pg l En rX1_greatestAlong Ss Mi Ar Be Me Co QQ 3 D vwCl AA Ss.heap 0 0 3 [(2, .int (hx_dn j)), (0, .ref k), (1, .int ax)] ws [] := by
    intro j
    induction j with
    | zero =>
      intro kj g
      refine hs_lv (lv' := [(2, .int (-1)), (0, .ref k), (1, .int ax)]) rfl ?_
      refine hv_iload_n h dX1_greatestAlong_3 0 rfl rfl ?_
      refine hv_if_lt h 24 dX1_greatestAlong_4 rfl (fun c4 => ?_) (fun hc => absurd (by decide) hc)
      refine hv_bipush h (12) dX1_greatestAlong_24 (by decide) ?_
      exact hv_iret h hr hlk hQ dX1_greatestAlong_26 ⟨(by unfold hx_great; rw [← g]; rfl), rfl⟩
    | succ n ih3 =>
      intro kj g
      refine hs_lv (lv' := [(2, .int (nI n)), (0, .ref k), (1, .int ax)]) rfl ?_
      refine hv_iload_n h dX1_greatestAlong_3 0 rfl rfl ?_
      refine hv_if_lt h 24 dX1_greatestAlong_4 rfl (fun hc => absurd hc (nI_pos (by omega))) (fun c4 => ?_)
      refine hv_aload_n h dX1_greatestAlong_7 1 rfl rfl ?_
      refine hv_iload_n h dX1_greatestAlong_8 2 rfl rfl ?_
      refine hv_iload_n h dX1_greatestAlong_9 0 rfl rfl ?_
      refine hv_callp (ws' := ws) (v := hx_layer f ax (nI n)) h (hr_Vi (n := 2) (rest := []) h q hk rfl (k_X1_countLayer l D cI cC ws q qa k a f hk ha ax (nI n)) w_methodLink_X1_46 w_instanceMethod_X1_countLayer w_selects_X1_countLayer w_initialized_X1 w_code_X1_countLayer (by decide +kernel) rfl rfl rfl ⟨by decide, by decide⟩ rfl (Nat.le_of_ble_eq_true rfl) ⟨Nat.zero_le _, Nat.zero_le _⟩ dX1_greatestAlong_10) ?_
      refine hv_if_le h 18 dX1_greatestAlong_13 rfl (fun c13 => ?_) (fun c13 => ?_)
      · refine hv_iinc h (hx_dn n) [(2, .int (hx_dn n)), (0, .ref k), (1, .int ax)] dX1_greatestAlong_18 0 rfl (hs_dn _) (by decide) rfl ?_
        refine hv_goto h 3 dX1_greatestAlong_21 rfl ?_
        exact ih3 (by omega) (by simpa [hx_lst, Int32.not_lt.mpr c13] using g)
      · refine hv_iload_n h dX1_greatestAlong_16 0 rfl rfl ?_
        exact hv_iret h hr hlk hQ dX1_greatestAlong_17 ⟨(by unfold hx_great; rw [← g]; simp [hx_lst, Int32.not_le.mp c13]), rfl⟩
  exact L3 12 (by omega) rfl
abbrev rX1_countPair : Room := { frames := 2, cells := 0, slots := 0, locals := 42 }
set_option maxHeartbeats 1000000 in
set_option maxRecDepth 100000 in
theorem k_X1_countPair (l : Launch) (D : va_G) (cI cC : ClassId) (ws : va_W) (q qa k a : Nat) (f : Nat → Int32) (hk : ws[q]? = some (k, .inr (hsCi, [.ref a]))) (ha : ws[qa]? = some (a, .inl (cI, 144, .inl f))) (x0 : Int32) (y0 : Int32) (z0 : Int32) : hsI l yX1_countPair wsX1_countPair rX1_countPair D vwCl (hsT cI cC) [.ref k, .int x0, .int y0, .int z0] ws (fun r w => r = hx_pair f x0 y0 z0 ∧ w = ws) := by
  refine hsI.enter (cc := cX1_countPair) (maxL := 4) (ret := (some .int)) (by decide) rfl (Nat.le_of_ble_eq_true rfl) ?_
  intro Pg En Ss Mi Ar Be Me Co AA QQ hQ h hr hlk
  refine hs_lv (lv' := [(0, .ref k), (1, .int x0), (2, .int y0), (3, .int z0)]) rfl ?_
  refine hv_aload_n h dX1_countPair_0 0 rfl rfl ?_
  refine hv_iload_n h dX1_countPair_1 1 rfl rfl ?_
  refine hv_iload_n h dX1_countPair_2 2 rfl rfl ?_
  refine hv_callp (ws' := ws) (v := hx_col f x0 y0) h (hr_Vi (n := 2) (rest := []) h q hk rfl (k_X1_column l D cI cC ws q qa k a f hk ha x0 y0) w_methodLink_X1_19 w_instanceMethod_X1_column w_selects_X1_column w_initialized_X1 w_code_X1_column (by decide +kernel) rfl rfl rfl ⟨by decide, by decide⟩ rfl (Nat.le_of_ble_eq_true rfl) ⟨Nat.zero_le _, Nat.zero_le _⟩ dX1_countPair_3) ?_
  refine hv_iconst h (1) dX1_countPair_6 (by decide) ?_
  refine hv_ishl h dX1_countPair_7 ?_
  refine hv_iload_n h dX1_countPair_8 3 rfl rfl ?_
  refine hv_ishr h dX1_countPair_9 ?_
  refine hv_iconst h (3) dX1_countPair_10 (by decide) ?_
  refine hv_iand h dX1_countPair_11 ?_
  refine hv_callp (ws' := ws) (v := hj_bc ((((hx_col f x0 y0) <<< ((1 : Int32) &&& 31)) >>> (z0 &&& 31)) &&& 3)) h (hr_Si (n := 1) (rest := []) h (k_X5_bitCount l D cI cC ws ((((hx_col f x0 y0) <<< ((1 : Int32) &&& 31)) >>> (z0 &&& 31)) &&& 3)) w_methodLink_X1_40 w_static_X5_bitCount w_initialized_X5 w_code_X5_bitCount (by decide +kernel) rfl rfl rfl ⟨by decide, by decide⟩ rfl (Nat.le_of_ble_eq_true rfl) ⟨Nat.zero_le _, Nat.zero_le _⟩ dX1_countPair_12) ?_
  exact hv_iret h hr hlk hQ dX1_countPair_15 ⟨rfl, rfl⟩
abbrev rX1_countAround : Room := { frames := 3, cells := 0, slots := 0, locals := 65 }
set_option maxHeartbeats 1000000 in
set_option maxRecDepth 100000 in
theorem k_X1_countAround (l : Launch) (D : va_G) (cI cC : ClassId) (ws : va_W) (q qa k a : Nat) (f : Nat → Int32) (hk : ws[q]? = some (k, .inr (hsCi, [.ref a]))) (ha : ws[qa]? = some (a, .inl (cI, 144, .inl f))) (x0 : Int32) (y0 : Int32) (z0 : Int32) : hsI l yX1_countAround wsX1_countAround rX1_countAround D vwCl (hsT cI cC) [.ref k, .int x0, .int y0, .int z0] ws (fun r w => r = hx_ar f x0 y0 z0 ∧ w = ws) := by
  refine hsI.enter (cc := cX1_countAround) (maxL := 4) (ret := (some .int)) (by decide) rfl (Nat.le_of_ble_eq_true rfl) ?_
  intro Pg En Ss Mi Ar Be Me Co AA QQ hQ h hr hlk
  refine hs_lv (lv' := [(0, .ref k), (1, .int x0), (2, .int y0), (3, .int z0)]) rfl ?_
  refine hv_aload_n h dX1_countAround_0 0 rfl rfl ?_
  refine hv_iload_n h dX1_countAround_1 1 rfl rfl ?_
  refine hv_iconst h (1) dX1_countAround_2 (by decide) ?_
  refine hv_isub h dX1_countAround_3 ?_
  refine hv_iload_n h dX1_countAround_4 2 rfl rfl ?_
  refine hv_iconst h (1) dX1_countAround_5 (by decide) ?_
  refine hv_isub h dX1_countAround_6 ?_
  refine hv_iload_n h dX1_countAround_7 3 rfl rfl ?_
  refine hv_callp (ws' := ws) (v := hx_pair f (x0 - 1) (y0 - 1) z0) h (hr_Vi (n := 3) (rest := []) h q hk rfl (k_X1_countPair l D cI cC ws q qa k a f hk ha (x0 - 1) (y0 - 1) z0) w_methodLink_X1_56 w_instanceMethod_X1_countPair w_selects_X1_countPair w_initialized_X1 w_code_X1_countPair (by decide +kernel) rfl rfl rfl ⟨by decide, by decide⟩ rfl (Nat.le_of_ble_eq_true rfl) ⟨Nat.zero_le _, Nat.zero_le _⟩ dX1_countAround_8) ?_
  refine hv_aload_n h dX1_countAround_11 0 rfl rfl ?_
  refine hv_iload_n h dX1_countAround_12 1 rfl rfl ?_
  refine hv_iconst h (1) dX1_countAround_13 (by decide) ?_
  refine hv_isub h dX1_countAround_14 ?_
  refine hv_iload_n h dX1_countAround_15 2 rfl rfl ?_
  refine hv_iload_n h dX1_countAround_16 3 rfl rfl ?_
  refine hv_callp (ws' := ws) (v := hx_pair f (x0 - 1) y0 z0) h (hr_Vi (n := 3) (rest := [.int (hx_pair f (x0 - 1) (y0 - 1) z0)]) h q hk rfl (k_X1_countPair l D cI cC ws q qa k a f hk ha (x0 - 1) y0 z0) w_methodLink_X1_56 w_instanceMethod_X1_countPair w_selects_X1_countPair w_initialized_X1 w_code_X1_countPair (by decide +kernel) rfl rfl rfl ⟨by decide, by decide⟩ rfl (Nat.le_of_ble_eq_true rfl) ⟨Nat.zero_le _, Nat.zero_le _⟩ dX1_countAround_17) ?_
  refine hv_iadd h dX1_countAround_20 ?_
  refine hv_aload_n h dX1_countAround_21 0 rfl rfl ?_
  refine hv_iload_n h dX1_countAround_22 1 rfl rfl ?_
  refine hv_iload_n h dX1_countAround_23 2 rfl rfl ?_
  refine hv_iconst h (1) dX1_countAround_24 (by decide) ?_
  refine hv_isub h dX1_countAround_25 ?_
  refine hv_iload_n h dX1_countAround_26 3 rfl rfl ?_
  refine hv_callp (ws' := ws) (v := hx_pair f x0 (y0 - 1) z0) h (hr_Vi (n := 3) (rest := [.int ((hx_pair f (x0 - 1) (y0 - 1) z0) + (hx_pair f (x0 - 1) y0 z0))]) h q hk rfl (k_X1_countPair l D cI cC ws q qa k a f hk ha x0 (y0 - 1) z0) w_methodLink_X1_56 w_instanceMethod_X1_countPair w_selects_X1_countPair w_initialized_X1 w_code_X1_countPair (by decide +kernel) rfl rfl rfl ⟨by decide, by decide⟩ rfl (Nat.le_of_ble_eq_true rfl) ⟨Nat.zero_le _, Nat.zero_le _⟩ dX1_countAround_27) ?_
  refine hv_iadd h dX1_countAround_30 ?_
  refine hv_aload_n h dX1_countAround_31 0 rfl rfl ?_
  refine hv_iload_n h dX1_countAround_32 1 rfl rfl ?_
  refine hv_iload_n h dX1_countAround_33 2 rfl rfl ?_
  refine hv_iload_n h dX1_countAround_34 3 rfl rfl ?_
  refine hv_callp (ws' := ws) (v := hx_pair f x0 y0 z0) h (hr_Vi (n := 3) (rest := [.int (((hx_pair f (x0 - 1) (y0 - 1) z0) + (hx_pair f (x0 - 1) y0 z0)) + (hx_pair f x0 (y0 - 1) z0))]) h q hk rfl (k_X1_countPair l D cI cC ws q qa k a f hk ha x0 y0 z0) w_methodLink_X1_56 w_instanceMethod_X1_countPair w_selects_X1_countPair w_initialized_X1 w_code_X1_countPair (by decide +kernel) rfl rfl rfl ⟨by decide, by decide⟩ rfl (Nat.le_of_ble_eq_true rfl) ⟨Nat.zero_le _, Nat.zero_le _⟩ dX1_countAround_35) ?_
  refine hv_iadd h dX1_countAround_38 ?_
  exact hv_iret h hr hlk hQ dX1_countAround_39 ⟨rfl, rfl⟩
abbrev rX1_hasCellsOf : Room := { frames := 0, cells := 0, slots := 0, locals := 0 }
set_option maxHeartbeats 1000000 in
set_option maxRecDepth 100000 in
theorem k_X1_hasCellsOf (l : Launch) (D : va_G) (cI cC : ClassId) (ws : va_W) (q qa k a : Nat) (f : Nat → Int32) (hk : ws[q]? = some (k, .inr (hsCi, [.ref a]))) (ha : ws[qa]? = some (a, .inl (cI, 144, .inl f))) (q2 q2a k2 a2 : Nat) (f2 : Nat → Int32) (hk2 : ws[q2]? = some (k2, .inr (hsCi, [.ref a2]))) (ha2 : ws[q2a]? = some (a2, .inl (cI, 144, .inl f2))) : hsI l yX1_hasCellsOf wsX1_hasCellsOf rX1_hasCellsOf D vwCl (hsT cI cC) [.ref k, .ref k2] ws (fun r w => r = hx_b (hx_eq f f2 144) ∧ w = ws) := by
  refine hsI.enter (cc := cX1_hasCellsOf) (maxL := 3) (ret := (some .boolean)) (by decide) rfl (Nat.le_of_ble_eq_true rfl) ?_
  intro Pg En Ss Mi Ar Be Me Co AA QQ hQ h hr hlk
  refine hs_lv (lv' := [(0, .ref k), (1, .ref k2)]) rfl ?_
  refine hv_iconst h (nI 0) dX1_hasCellsOf_0 (by decide) ?_
  refine hv_istore_n h [(2, .int (nI 0)), (0, .ref k), (1, .ref k2)] dX1_hasCellsOf_1 rfl (by decide) rfl ?_
  have L2 : ∀ d2 i2 : Nat, i2 + d2 = 144 → (∀ i, i < i2 → f i = f2 i) → hsV Pg l En rX1_hasCellsOf Ss Mi Ar Be Me Co QQ 3 D vwCl AA Ss.heap 0 0 2 [(2, .int (nI i2)), (0, .ref k), (1, .ref k2)] ws [] := by
    intro d2
    induction d2 with
    | zero =>
      intro i2 kq2 g
      obtain rfl : i2 = 144 := by omega
      refine hv_iload_n h dX1_hasCellsOf_2 0 rfl rfl ?_
      refine hv_sipush h (nI 144) dX1_hasCellsOf_3 (by decide) ?_
      refine hv_icmp_ge h 32 dX1_hasCellsOf_6 rfl (fun c6 => ?_) (fun hc => absurd (Int32.le_refl _) hc)
      refine hv_iconst h (1) dX1_hasCellsOf_32 (by decide) ?_
      exact hv_zret h hr hlk hQ dX1_hasCellsOf_33 rfl ⟨(by rw [hx_eq_t g]; rfl), rfl⟩
    | succ d2 ih2 =>
      intro i2 kq2 g
      have hlt2 : i2 < 144 := by omega
      refine hv_iload_n h dX1_hasCellsOf_2 0 rfl rfl ?_
      refine hv_sipush h (nI 144) dX1_hasCellsOf_3 (by decide) ?_
      refine hv_icmp_ge h 32 dX1_hasCellsOf_6 rfl (fun hc => absurd hc (nI_ge hlt2 (by decide))) (fun c6 => ?_)
      refine hv_aload_n h dX1_hasCellsOf_9 1 rfl rfl ?_
      refine hv_get (C := RX1) (T := TX1) (N := 1) h q hk rfl 0 (by decide) wu_X1 w_fieldLink_X1_9 (fun _ h9 => h9) rfl dX1_hasCellsOf_10 ?_
      refine hv_iload_n h dX1_hasCellsOf_13 0 rfl rfl ?_
      refine hv_iald (v := f i2) h qa 0 ha rfl (vp_in_nI (by omega) (by decide)) (by rw [nI_clamp (by omega)]) dX1_hasCellsOf_14 ?_
      refine hv_aload_n h dX1_hasCellsOf_15 2 rfl rfl ?_
      refine hv_get (C := RX1) (T := TX1) (N := 1) h q2 hk2 rfl 0 (by decide) wu_X1 w_fieldLink_X1_9 (fun _ h9 => h9) rfl dX1_hasCellsOf_16 ?_
      refine hv_iload_n h dX1_hasCellsOf_19 0 rfl rfl ?_
      refine hv_iald (v := f2 i2) h q2a 0 ha2 rfl (vp_in_nI (by omega) (by decide)) (by rw [nI_clamp (by omega)]) dX1_hasCellsOf_20 ?_
      refine hv_icmp_eq h 26 dX1_hasCellsOf_21 rfl (fun c21 => ?_) (fun c21 => ?_)
      · refine hv_iinc h (nI (i2 + 1)) [(2, .int (nI (i2 + 1))), (0, .ref k), (1, .ref k2)] dX1_hasCellsOf_26 0 rfl (hs_inc _) (by decide) rfl ?_
        refine hv_goto h 2 dX1_hasCellsOf_29 rfl ?_
        exact ih2 (i2 + 1) (by omega) (lt_s g c21)
      · refine hv_iconst h (0) dX1_hasCellsOf_24 (by decide) ?_
        exact hv_zret h hr hlk hQ dX1_hasCellsOf_25 rfl ⟨(by rw [hx_eq_f hlt2 c21]; rfl), rfl⟩
  exact L2 144 0 (by omega) lt_0
abbrev rX1_turnedColumn : Room := { frames := 3, cells := 0, slots := 0, locals := 68 }
set_option maxHeartbeats 1000000 in
set_option maxRecDepth 100000 in
theorem k_X1_turnedColumn (l : Launch) (D : va_G) (cI cC : ClassId) (ws : va_W) (q qa k a : Nat) (f : Nat → Int32) (hk : ws[q]? = some (k, .inr (hsCi, [.ref a]))) (ha : ws[qa]? = some (a, .inl (cI, 144, .inl f))) (ax : Int32) (x0 : Int32) (y0 : Int32) : hsI l yX1_turnedColumn wsX1_turnedColumn rX1_turnedColumn D vwCl (hsT cI cC) [.ref k, .int ax, .int x0, .int y0] ws (fun r w => r = hx_tc f ax x0 y0 ∧ w = ws) := by
  refine hsI.enter (cc := cX1_turnedColumn) (maxL := 4) (ret := (some .int)) (by decide) rfl (Nat.le_of_ble_eq_true rfl) ?_
  intro Pg En Ss Mi Ar Be Me Co AA QQ hQ h hr hlk
  refine hs_lv (lv' := [(0, .ref k), (1, .int ax), (2, .int x0), (3, .int y0)]) rfl ?_
  refine hv_iload_n h dX1_turnedColumn_0 1 rfl rfl ?_
  refine hv_if_ne h 15 dX1_turnedColumn_1 rfl (fun c1 => ?_) (fun c1 => ?_)
  · refine hv_iload_n h dX1_turnedColumn_15 1 rfl rfl ?_
    refine hv_iconst h (1) dX1_turnedColumn_16 (by decide) ?_
    refine hv_icmp_ne h 31 dX1_turnedColumn_17 rfl (fun c17 => ?_) (fun c17 => ?_)
    · refine hv_aload_n h dX1_turnedColumn_31 0 rfl rfl ?_
      refine hv_iload_n h dX1_turnedColumn_32 3 rfl rfl ?_
      refine hv_bipush h (11) dX1_turnedColumn_33 (by decide) ?_
      refine hv_iload_n h dX1_turnedColumn_35 2 rfl rfl ?_
      refine hv_isub h dX1_turnedColumn_36 ?_
      refine hv_callp (ws' := ws) (v := hx_col f y0 (11 - x0)) h (hr_Vi (n := 2) (rest := []) h q hk rfl (k_X1_column l D cI cC ws q qa k a f hk ha y0 (11 - x0)) w_methodLink_X1_19 w_instanceMethod_X1_column w_selects_X1_column w_initialized_X1 w_code_X1_column (by decide +kernel) rfl rfl rfl ⟨by decide, by decide⟩ rfl (Nat.le_of_ble_eq_true rfl) ⟨Nat.zero_le _, Nat.zero_le _⟩ dX1_turnedColumn_37) ?_
      exact hv_iret h hr hlk hQ dX1_turnedColumn_40 ⟨(by first | with_reducible rfl | simp [hx_b, hx_tc, c1, c17]), rfl⟩
    · refine hv_aload_n h dX1_turnedColumn_20 0 rfl rfl ?_
      refine hv_iconst h (0) dX1_turnedColumn_21 (by decide) ?_
      refine hv_iload_n h dX1_turnedColumn_22 3 rfl rfl ?_
      refine hv_iload_n h dX1_turnedColumn_23 2 rfl rfl ?_
      refine hv_callp (ws' := ws) (v := hx_al f 0 y0 x0) h (hr_Vi (n := 3) (rest := []) h q hk rfl (k_X1_columnAlong l D cI cC ws q qa k a f hk ha 0 y0 x0) w_methodLink_X1_23 w_instanceMethod_X1_columnAlong w_selects_X1_columnAlong w_initialized_X1 w_code_X1_columnAlong (by decide +kernel) rfl rfl rfl ⟨by decide, by decide⟩ rfl (Nat.le_of_ble_eq_true rfl) ⟨Nat.zero_le _, Nat.zero_le _⟩ dX1_turnedColumn_24) ?_
      refine hv_callp (ws' := ws) (v := hx_rev (hx_al f 0 y0 x0)) h (hr_Si (n := 1) (rest := []) h (k_X1_reversed l D cI cC ws (hx_al f 0 y0 x0)) w_methodLink_X1_59 w_static_X1_reversed w_initialized_X1 w_code_X1_reversed (by decide +kernel) rfl rfl rfl ⟨by decide, by decide⟩ rfl (Nat.le_of_ble_eq_true rfl) ⟨Nat.zero_le _, Nat.zero_le _⟩ dX1_turnedColumn_27) ?_
      exact hv_iret h hr hlk hQ dX1_turnedColumn_30 ⟨(by first | with_reducible rfl | simp [hx_b, hx_tc, c1, c17]), rfl⟩
  · refine hv_aload_n h dX1_turnedColumn_4 0 rfl rfl ?_
    refine hv_iconst h (1) dX1_turnedColumn_5 (by decide) ?_
    refine hv_iload_n h dX1_turnedColumn_6 2 rfl rfl ?_
    refine hv_bipush h (11) dX1_turnedColumn_7 (by decide) ?_
    refine hv_iload_n h dX1_turnedColumn_9 3 rfl rfl ?_
    refine hv_isub h dX1_turnedColumn_10 ?_
    refine hv_callp (ws' := ws) (v := hx_al f 1 x0 (11 - y0)) h (hr_Vi (n := 3) (rest := []) h q hk rfl (k_X1_columnAlong l D cI cC ws q qa k a f hk ha 1 x0 (11 - y0)) w_methodLink_X1_23 w_instanceMethod_X1_columnAlong w_selects_X1_columnAlong w_initialized_X1 w_code_X1_columnAlong (by decide +kernel) rfl rfl rfl ⟨by decide, by decide⟩ rfl (Nat.le_of_ble_eq_true rfl) ⟨Nat.zero_le _, Nat.zero_le _⟩ dX1_turnedColumn_11) ?_
    exact hv_iret h hr hlk hQ dX1_turnedColumn_14 ⟨(by first | with_reducible rfl | simp [hx_b, hx_tc, c1]), rfl⟩
abbrev rX1_mirroredColumn : Room := { frames := 3, cells := 0, slots := 0, locals := 60 }
set_option maxHeartbeats 1000000 in
set_option maxRecDepth 100000 in
theorem k_X1_mirroredColumn (l : Launch) (D : va_G) (cI cC : ClassId) (ws : va_W) (q qa k a : Nat) (f : Nat → Int32) (hk : ws[q]? = some (k, .inr (hsCi, [.ref a]))) (ha : ws[qa]? = some (a, .inl (cI, 144, .inl f))) (ax : Int32) (x0 : Int32) (y0 : Int32) : hsI l yX1_mirroredColumn wsX1_mirroredColumn rX1_mirroredColumn D vwCl (hsT cI cC) [.ref k, .int ax, .int x0, .int y0] ws (fun r w => r = hx_mc f ax x0 y0 ∧ w = ws) := by
  refine hsI.enter (cc := cX1_mirroredColumn) (maxL := 4) (ret := (some .int)) (by decide) rfl (Nat.le_of_ble_eq_true rfl) ?_
  intro Pg En Ss Mi Ar Be Me Co AA QQ hQ h hr hlk
  refine hs_lv (lv' := [(0, .ref k), (1, .int ax), (2, .int x0), (3, .int y0)]) rfl ?_
  refine hv_iload_n h dX1_mirroredColumn_0 1 rfl rfl ?_
  refine hv_if_ne h 14 dX1_mirroredColumn_1 rfl (fun c1 => ?_) (fun c1 => ?_)
  · refine hv_iload_n h dX1_mirroredColumn_14 1 rfl rfl ?_
    refine hv_iconst h (1) dX1_mirroredColumn_15 (by decide) ?_
    refine hv_icmp_ne h 29 dX1_mirroredColumn_16 rfl (fun c16 => ?_) (fun c16 => ?_)
    · refine hv_aload_n h dX1_mirroredColumn_29 0 rfl rfl ?_
      refine hv_iload_n h dX1_mirroredColumn_30 2 rfl rfl ?_
      refine hv_iload_n h dX1_mirroredColumn_31 3 rfl rfl ?_
      refine hv_callp (ws' := ws) (v := hx_col f x0 y0) h (hr_Vi (n := 2) (rest := []) h q hk rfl (k_X1_column l D cI cC ws q qa k a f hk ha x0 y0) w_methodLink_X1_19 w_instanceMethod_X1_column w_selects_X1_column w_initialized_X1 w_code_X1_column (by decide +kernel) rfl rfl rfl ⟨by decide, by decide⟩ rfl (Nat.le_of_ble_eq_true rfl) ⟨Nat.zero_le _, Nat.zero_le _⟩ dX1_mirroredColumn_32) ?_
      refine hv_callp (ws' := ws) (v := hx_rev (hx_col f x0 y0)) h (hr_Si (n := 1) (rest := []) h (k_X1_reversed l D cI cC ws (hx_col f x0 y0)) w_methodLink_X1_59 w_static_X1_reversed w_initialized_X1 w_code_X1_reversed (by decide +kernel) rfl rfl rfl ⟨by decide, by decide⟩ rfl (Nat.le_of_ble_eq_true rfl) ⟨Nat.zero_le _, Nat.zero_le _⟩ dX1_mirroredColumn_35) ?_
      exact hv_iret h hr hlk hQ dX1_mirroredColumn_38 ⟨(by first | with_reducible rfl | simp [hx_b, hx_mc, c1, c16]), rfl⟩
    · refine hv_aload_n h dX1_mirroredColumn_19 0 rfl rfl ?_
      refine hv_iload_n h dX1_mirroredColumn_20 2 rfl rfl ?_
      refine hv_bipush h (11) dX1_mirroredColumn_21 (by decide) ?_
      refine hv_iload_n h dX1_mirroredColumn_23 3 rfl rfl ?_
      refine hv_isub h dX1_mirroredColumn_24 ?_
      refine hv_callp (ws' := ws) (v := hx_col f x0 (11 - y0)) h (hr_Vi (n := 2) (rest := []) h q hk rfl (k_X1_column l D cI cC ws q qa k a f hk ha x0 (11 - y0)) w_methodLink_X1_19 w_instanceMethod_X1_column w_selects_X1_column w_initialized_X1 w_code_X1_column (by decide +kernel) rfl rfl rfl ⟨by decide, by decide⟩ rfl (Nat.le_of_ble_eq_true rfl) ⟨Nat.zero_le _, Nat.zero_le _⟩ dX1_mirroredColumn_25) ?_
      exact hv_iret h hr hlk hQ dX1_mirroredColumn_28 ⟨(by first | with_reducible rfl | simp [hx_b, hx_mc, c1, c16]), rfl⟩
  · refine hv_aload_n h dX1_mirroredColumn_4 0 rfl rfl ?_
    refine hv_bipush h (11) dX1_mirroredColumn_5 (by decide) ?_
    refine hv_iload_n h dX1_mirroredColumn_7 2 rfl rfl ?_
    refine hv_isub h dX1_mirroredColumn_8 ?_
    refine hv_iload_n h dX1_mirroredColumn_9 3 rfl rfl ?_
    refine hv_callp (ws' := ws) (v := hx_col f (11 - x0) y0) h (hr_Vi (n := 2) (rest := []) h q hk rfl (k_X1_column l D cI cC ws q qa k a f hk ha (11 - x0) y0) w_methodLink_X1_19 w_instanceMethod_X1_column w_selects_X1_column w_initialized_X1 w_code_X1_column (by decide +kernel) rfl rfl rfl ⟨by decide, by decide⟩ rfl (Nat.le_of_ble_eq_true rfl) ⟨Nat.zero_le _, Nat.zero_le _⟩ dX1_mirroredColumn_10) ?_
    exact hv_iret h hr hlk hQ dX1_mirroredColumn_13 ⟨(by first | with_reducible rfl | simp [hx_b, hx_mc, c1]), rfl⟩
abbrev rX0_wouldLeave : Room := { frames := 5, cells := 0, slots := 0, locals := 114 }
set_option maxHeartbeats 1000000 in
set_option maxRecDepth 100000 in
theorem k_X0_wouldLeave (l : Launch) (D : va_G) (cI cC : ClassId) (ws : va_W) (q qa k a : Nat) (f : Nat → Int32) (hk : ws[q]? = some (k, .inr (hsCi, [.ref a]))) (ha : ws[qa]? = some (a, .inl (cI, 144, .inl f))) (ax : Int32) (d0 : Int32) : hsI l yX0_wouldLeave wsX0_wouldLeave rX0_wouldLeave D vwCl (hsT cI cC) [.ref k, .int ax, .int d0] ws (fun r w => r = hx_b (hx_wl f ax d0) ∧ w = ws) := by
  refine hsI.enter (cc := cX0_wouldLeave) (maxL := 4) (ret := (some .boolean)) (by decide) rfl (Nat.le_of_ble_eq_true rfl) ?_
  intro Pg En Ss Mi Ar Be Me Co AA QQ hQ h hr hlk
  refine hs_lv (lv' := [(0, .ref k), (1, .int ax), (2, .int d0)]) rfl ?_
  refine hv_aload_n h dX0_wouldLeave_0 0 rfl rfl ?_
  refine hv_iload_n h dX0_wouldLeave_1 1 rfl rfl ?_
  refine hv_callp (ws' := ws) (v := hx_least f ax) h (hr_Vi (n := 1) (rest := []) h q hk rfl (k_X1_leastAlong l D cI cC ws q qa k a f hk ha ax) w_methodLink_X0_110 w_instanceMethod_X1_leastAlong w_selects_X1_leastAlong w_initialized_X1 w_code_X1_leastAlong (by decide +kernel) rfl rfl rfl ⟨by decide, by decide⟩ rfl (Nat.le_of_ble_eq_true rfl) ⟨Nat.zero_le _, Nat.zero_le _⟩ dX0_wouldLeave_2) ?_
  refine hv_istore_n h [(3, .int (hx_least f ax)), (0, .ref k), (1, .int ax), (2, .int d0)] dX0_wouldLeave_5 rfl (by decide) rfl ?_
  refine hv_iload_n h dX0_wouldLeave_6 0 rfl rfl ?_
  refine hv_bipush h (12) dX0_wouldLeave_7 (by decide) ?_
  refine hv_icmp_ne h 14 dX0_wouldLeave_9 rfl (fun c9 => ?_) (fun c9 => ?_)
  · refine hv_iload_n h dX0_wouldLeave_14 3 rfl rfl ?_
    refine hv_iload_n h dX0_wouldLeave_15 0 rfl rfl ?_
    refine hv_ineg h dX0_wouldLeave_16 ?_
    refine hv_icmp_lt h 32 dX0_wouldLeave_17 rfl (fun c17 => ?_) (fun c17 => ?_)
    · refine hv_iconst h (1) dX0_wouldLeave_32 (by decide) ?_
      refine hv_goto h 37 dX0_wouldLeave_33 rfl ?_
      exact hv_zret h hr hlk hQ dX0_wouldLeave_37 rfl ⟨(by first | with_reducible rfl | simp [hx_b, hx_wl, c9, c17]), rfl⟩
    · refine hv_iload_n h dX0_wouldLeave_20 3 rfl rfl ?_
      refine hv_bipush h (11) dX0_wouldLeave_21 (by decide) ?_
      refine hv_aload_n h dX0_wouldLeave_23 1 rfl rfl ?_
      refine hv_iload_n h dX0_wouldLeave_24 2 rfl rfl ?_
      refine hv_callp (ws' := ws) (v := hx_great f ax) h (hr_Vi (n := 1) (rest := [.int 11, .int d0]) h q hk rfl (k_X1_greatestAlong l D cI cC ws q qa k a f hk ha ax) w_methodLink_X0_113 w_instanceMethod_X1_greatestAlong w_selects_X1_greatestAlong w_initialized_X1 w_code_X1_greatestAlong (by decide +kernel) rfl rfl rfl ⟨by decide, by decide⟩ rfl (Nat.le_of_ble_eq_true rfl) ⟨Nat.zero_le _, Nat.zero_le _⟩ dX0_wouldLeave_25) ?_
      refine hv_isub h dX0_wouldLeave_28 ?_
      refine hv_icmp_le h 36 dX0_wouldLeave_29 rfl (fun c29 => ?_) (fun c29 => ?_)
      · refine hv_iconst h (0) dX0_wouldLeave_36 (by decide) ?_
        exact hv_zret h hr hlk hQ dX0_wouldLeave_37 rfl ⟨(by first | with_reducible rfl | simp [hx_b, hx_wl, c9, c17, c29]), rfl⟩
      · refine hv_iconst h (1) dX0_wouldLeave_32 (by decide) ?_
        refine hv_goto h 37 dX0_wouldLeave_33 rfl ?_
        exact hv_zret h hr hlk hQ dX0_wouldLeave_37 rfl ⟨(by first | with_reducible rfl | simp [hx_b, hx_wl, c9, c17, c29]), rfl⟩
  · refine hv_iconst h (0) dX0_wouldLeave_12 (by decide) ?_
    exact hv_zret h hr hlk hQ dX0_wouldLeave_13 rfl ⟨(by first | with_reducible rfl | simp [hx_b, hx_wl, c9]), rfl⟩
