abbrev rX5_bitCount : Room := { frames := 0, cells := 0, slots := 0, locals := 0 }
set_option maxHeartbeats 1000000 in
set_option maxRecDepth 100000 in
theorem k_X5_bitCount (l : Launch) (D : va_G) (cI cC : ClassId) (ws : va_W) (i0 : Int32) : hsI l yX5_bitCount wsX5_bitCount rX5_bitCount D vwCl (hsT cI cC) [.int i0] ws (fun r w => r = hj_bc i0 ∧ w = ws) := by
  refine hsI.enter (cc := cX5_bitCount) (maxL := 1) (ret := (some .int)) (by decide) rfl (Nat.le_of_ble_eq_true rfl) ?_
  intro Pg En Ss Mi Ar Be Me Co AA QQ hQ h hr hlk
  refine hs_lv (lv' := [(0, .int i0)]) rfl ?_
  refine hv_iload_n h dX5_bitCount_0 0 rfl rfl ?_
  refine hv_iload_n h dX5_bitCount_1 0 rfl rfl ?_
  refine hv_iconst h (1) dX5_bitCount_2 (by decide) ?_
  refine hv_iushr h dX5_bitCount_3 ?_
  refine hv_ldcw h (1431655765) w_constant_X5_265 dX5_bitCount_4 ?_
  refine hv_iand h dX5_bitCount_7 ?_
  refine hv_isub h dX5_bitCount_8 ?_
  refine hv_istore_n h [(0, .int (i0 - ((hj_u i0 1) &&& 1431655765)))] dX5_bitCount_9 rfl (by decide) rfl ?_
  refine hs_lv (lv' := [(0, .int (hj_bc1 i0))]) rfl ?_
  refine hv_iload_n h dX5_bitCount_10 0 rfl rfl ?_
  refine hv_ldcw h (858993459) w_constant_X5_266 dX5_bitCount_11 ?_
  refine hv_iand h dX5_bitCount_14 ?_
  refine hv_iload_n h dX5_bitCount_15 0 rfl rfl ?_
  refine hv_iconst h (2) dX5_bitCount_16 (by decide) ?_
  refine hv_iushr h dX5_bitCount_17 ?_
  refine hv_ldcw h (858993459) w_constant_X5_266 dX5_bitCount_18 ?_
  refine hv_iand h dX5_bitCount_21 ?_
  refine hv_iadd h dX5_bitCount_22 ?_
  refine hv_istore_n h [(0, .int (((hj_bc1 i0) &&& 858993459) + ((hj_u (hj_bc1 i0) 2) &&& 858993459)))] dX5_bitCount_23 rfl (by decide) rfl ?_
  refine hs_lv (lv' := [(0, .int (hj_bc2 (hj_bc1 i0)))]) rfl ?_
  refine hv_iload_n h dX5_bitCount_24 0 rfl rfl ?_
  refine hv_iload_n h dX5_bitCount_25 0 rfl rfl ?_
  refine hv_iconst h (4) dX5_bitCount_26 (by decide) ?_
  refine hv_iushr h dX5_bitCount_27 ?_
  refine hv_iadd h dX5_bitCount_28 ?_
  refine hv_ldcw h (252645135) w_constant_X5_267 dX5_bitCount_29 ?_
  refine hv_iand h dX5_bitCount_32 ?_
  refine hv_istore_n h [(0, .int (((hj_bc2 (hj_bc1 i0)) + (hj_u (hj_bc2 (hj_bc1 i0)) 4)) &&& 252645135))] dX5_bitCount_33 rfl (by decide) rfl ?_
  refine hs_lv (lv' := [(0, .int (hj_bc3 (hj_bc2 (hj_bc1 i0))))]) rfl ?_
  refine hv_iload_n h dX5_bitCount_34 0 rfl rfl ?_
  refine hv_iload_n h dX5_bitCount_35 0 rfl rfl ?_
  refine hv_bipush h (8) dX5_bitCount_36 (by decide) ?_
  refine hv_iushr h dX5_bitCount_38 ?_
  refine hv_iadd h dX5_bitCount_39 ?_
  refine hv_istore_n h [(0, .int ((hj_bc3 (hj_bc2 (hj_bc1 i0))) + (hj_u (hj_bc3 (hj_bc2 (hj_bc1 i0))) 8)))] dX5_bitCount_40 rfl (by decide) rfl ?_
  refine hs_lv (lv' := [(0, .int (hj_bc4 (hj_bc3 (hj_bc2 (hj_bc1 i0)))))]) rfl ?_
  refine hv_iload_n h dX5_bitCount_41 0 rfl rfl ?_
  refine hv_iload_n h dX5_bitCount_42 0 rfl rfl ?_
  refine hv_bipush h (16) dX5_bitCount_43 (by decide) ?_
  refine hv_iushr h dX5_bitCount_45 ?_
  refine hv_iadd h dX5_bitCount_46 ?_
  refine hv_istore_n h [(0, .int ((hj_bc4 (hj_bc3 (hj_bc2 (hj_bc1 i0)))) + (hj_u (hj_bc4 (hj_bc3 (hj_bc2 (hj_bc1 i0)))) 16)))] dX5_bitCount_47 rfl (by decide) rfl ?_
  refine hs_lv (lv' := [(0, .int (hj_bc5 (hj_bc4 (hj_bc3 (hj_bc2 (hj_bc1 i0))))))]) rfl ?_
  refine hv_iload_n h dX5_bitCount_48 0 rfl rfl ?_
  refine hv_bipush h (63) dX5_bitCount_49 (by decide) ?_
  refine hv_iand h dX5_bitCount_51 ?_
  exact hv_iret h hr hlk hQ dX5_bitCount_52 ⟨rfl, rfl⟩
abbrev rX5_reverseBytes : Room := { frames := 0, cells := 0, slots := 0, locals := 0 }
set_option maxHeartbeats 1000000 in
set_option maxRecDepth 100000 in
theorem k_X5_reverseBytes (l : Launch) (D : va_G) (cI cC : ClassId) (ws : va_W) (i0 : Int32) : hsI l yX5_reverseBytes wsX5_reverseBytes rX5_reverseBytes D vwCl (hsT cI cC) [.int i0] ws (fun r w => r = hj_rb i0 ∧ w = ws) := by
  refine hsI.enter (cc := cX5_reverseBytes) (maxL := 1) (ret := (some .int)) (by decide) rfl (Nat.le_of_ble_eq_true rfl) ?_
  intro Pg En Ss Mi Ar Be Me Co AA QQ hQ h hr hlk
  refine hs_lv (lv' := [(0, .int i0)]) rfl ?_
  refine hv_iload_n h dX5_reverseBytes_0 0 rfl rfl ?_
  refine hv_bipush h (24) dX5_reverseBytes_1 (by decide) ?_
  refine hv_ishl h dX5_reverseBytes_3 ?_
  refine hv_iload_n h dX5_reverseBytes_4 0 rfl rfl ?_
  refine hv_ldcw h (65280) w_constant_X5_274 dX5_reverseBytes_5 ?_
  refine hv_iand h dX5_reverseBytes_8 ?_
  refine hv_bipush h (8) dX5_reverseBytes_9 (by decide) ?_
  refine hv_ishl h dX5_reverseBytes_11 ?_
  refine hv_ior h dX5_reverseBytes_12 ?_
  refine hv_iload_n h dX5_reverseBytes_13 0 rfl rfl ?_
  refine hv_bipush h (8) dX5_reverseBytes_14 (by decide) ?_
  refine hv_iushr h dX5_reverseBytes_16 ?_
  refine hv_ldcw h (65280) w_constant_X5_274 dX5_reverseBytes_17 ?_
  refine hv_iand h dX5_reverseBytes_20 ?_
  refine hv_ior h dX5_reverseBytes_21 ?_
  refine hv_iload_n h dX5_reverseBytes_22 0 rfl rfl ?_
  refine hv_bipush h (24) dX5_reverseBytes_23 (by decide) ?_
  refine hv_iushr h dX5_reverseBytes_25 ?_
  refine hv_ior h dX5_reverseBytes_26 ?_
  exact hv_iret h hr hlk hQ dX5_reverseBytes_27 ⟨rfl, rfl⟩
abbrev rX5_reverse : Room := { frames := 1, cells := 0, slots := 0, locals := 20 }
set_option maxHeartbeats 1000000 in
set_option maxRecDepth 100000 in
theorem k_X5_reverse (l : Launch) (D : va_G) (cI cC : ClassId) (ws : va_W) (i0 : Int32) : hsI l yX5_reverse wsX5_reverse rX5_reverse D vwCl (hsT cI cC) [.int i0] ws (fun r w => r = hj_rev i0 ∧ w = ws) := by
  refine hsI.enter (cc := cX5_reverse) (maxL := 1) (ret := (some .int)) (by decide) rfl (Nat.le_of_ble_eq_true rfl) ?_
  intro Pg En Ss Mi Ar Be Me Co AA QQ hQ h hr hlk
  refine hs_lv (lv' := [(0, .int i0)]) rfl ?_
  refine hv_iload_n h dX5_reverse_0 0 rfl rfl ?_
  refine hv_ldcw h (1431655765) w_constant_X5_265 dX5_reverse_1 ?_
  refine hv_iand h dX5_reverse_4 ?_
  refine hv_iconst h (1) dX5_reverse_5 (by decide) ?_
  refine hv_ishl h dX5_reverse_6 ?_
  refine hv_iload_n h dX5_reverse_7 0 rfl rfl ?_
  refine hv_iconst h (1) dX5_reverse_8 (by decide) ?_
  refine hv_iushr h dX5_reverse_9 ?_
  refine hv_ldcw h (1431655765) w_constant_X5_265 dX5_reverse_10 ?_
  refine hv_iand h dX5_reverse_13 ?_
  refine hv_ior h dX5_reverse_14 ?_
  refine hv_istore_n h [(0, .int (((i0 &&& 1431655765) <<< ((1 : Int32) &&& 31)) ||| ((hj_u i0 1) &&& 1431655765)))] dX5_reverse_15 rfl (by decide) rfl ?_
  refine hs_lv (lv' := [(0, .int (hj_r1 i0))]) rfl ?_
  refine hv_iload_n h dX5_reverse_16 0 rfl rfl ?_
  refine hv_ldcw h (858993459) w_constant_X5_266 dX5_reverse_17 ?_
  refine hv_iand h dX5_reverse_20 ?_
  refine hv_iconst h (2) dX5_reverse_21 (by decide) ?_
  refine hv_ishl h dX5_reverse_22 ?_
  refine hv_iload_n h dX5_reverse_23 0 rfl rfl ?_
  refine hv_iconst h (2) dX5_reverse_24 (by decide) ?_
  refine hv_iushr h dX5_reverse_25 ?_
  refine hv_ldcw h (858993459) w_constant_X5_266 dX5_reverse_26 ?_
  refine hv_iand h dX5_reverse_29 ?_
  refine hv_ior h dX5_reverse_30 ?_
  refine hv_istore_n h [(0, .int ((((hj_r1 i0) &&& 858993459) <<< ((2 : Int32) &&& 31)) ||| ((hj_u (hj_r1 i0) 2) &&& 858993459)))] dX5_reverse_31 rfl (by decide) rfl ?_
  refine hs_lv (lv' := [(0, .int (hj_r2 (hj_r1 i0)))]) rfl ?_
  refine hv_iload_n h dX5_reverse_32 0 rfl rfl ?_
  refine hv_ldcw h (252645135) w_constant_X5_267 dX5_reverse_33 ?_
  refine hv_iand h dX5_reverse_36 ?_
  refine hv_iconst h (4) dX5_reverse_37 (by decide) ?_
  refine hv_ishl h dX5_reverse_38 ?_
  refine hv_iload_n h dX5_reverse_39 0 rfl rfl ?_
  refine hv_iconst h (4) dX5_reverse_40 (by decide) ?_
  refine hv_iushr h dX5_reverse_41 ?_
  refine hv_ldcw h (252645135) w_constant_X5_267 dX5_reverse_42 ?_
  refine hv_iand h dX5_reverse_45 ?_
  refine hv_ior h dX5_reverse_46 ?_
  refine hv_istore_n h [(0, .int ((((hj_r2 (hj_r1 i0)) &&& 252645135) <<< ((4 : Int32) &&& 31)) ||| ((hj_u (hj_r2 (hj_r1 i0)) 4) &&& 252645135)))] dX5_reverse_47 rfl (by decide) rfl ?_
  refine hs_lv (lv' := [(0, .int (hj_r3 (hj_r2 (hj_r1 i0))))]) rfl ?_
  refine hv_iload_n h dX5_reverse_48 0 rfl rfl ?_
  refine hv_callp (ws' := ws) (v := hj_rb (hj_r3 (hj_r2 (hj_r1 i0)))) h (hr_Si (n := 1) (rest := []) h (k_X5_reverseBytes l D cI cC ws (hj_r3 (hj_r2 (hj_r1 i0)))) w_methodLink_X5_268 w_static_X5_reverseBytes w_initialized_X5 w_code_X5_reverseBytes (by decide +kernel) rfl rfl rfl ⟨by decide, by decide⟩ rfl (Nat.le_of_ble_eq_true rfl) ⟨Nat.zero_le _, Nat.zero_le _⟩ dX5_reverse_49) ?_
  exact hv_iret h hr hlk hQ dX5_reverse_52 ⟨rfl, rfl⟩
abbrev rX5_numberOfLeadingZeros : Room := { frames := 0, cells := 0, slots := 0, locals := 0 }
set_option maxHeartbeats 1000000 in
set_option maxRecDepth 100000 in
theorem k_X5_numberOfLeadingZeros (l : Launch) (D : va_G) (cI cC : ClassId) (ws : va_W) (i0 : Int32) : hsI l yX5_numberOfLeadingZeros wsX5_numberOfLeadingZeros rX5_numberOfLeadingZeros D vwCl (hsT cI cC) [.int i0] ws (fun r w => r = hj_nlz i0 ∧ w = ws) := by
  refine hsI.enter (cc := cX5_numberOfLeadingZeros) (maxL := 2) (ret := (some .int)) (by decide) rfl (Nat.le_of_ble_eq_true rfl) ?_
  intro Pg En Ss Mi Ar Be Me Co AA QQ hQ h hr hlk
  refine hs_lv (lv' := [(0, .int i0)]) rfl ?_
  refine hv_iload_n h dX5_numberOfLeadingZeros_0 0 rfl rfl ?_
  refine hv_if_gt h 15 dX5_numberOfLeadingZeros_1 rfl (fun c1 => ?_) (fun c1 => ?_)
  · refine hv_bipush h (31) dX5_numberOfLeadingZeros_15 (by decide) ?_
    refine hv_istore_n h [(1, .int 31), (0, .int i0)] dX5_numberOfLeadingZeros_17 rfl (by decide) rfl ?_
    refine hv_iload_n h dX5_numberOfLeadingZeros_18 1 rfl rfl ?_
    refine hv_ldcw h (65536) w_constant_X5_264 dX5_numberOfLeadingZeros_19 ?_
    refine hv_icmp_lt h 33 dX5_numberOfLeadingZeros_22 rfl (fun c22 => ?_) (fun c22 => ?_)
    · refine hv_iload_n h dX5_numberOfLeadingZeros_33 1 rfl rfl ?_
      refine hv_sipush h (256) dX5_numberOfLeadingZeros_34 (by decide) ?_
      refine hv_icmp_lt h 48 dX5_numberOfLeadingZeros_37 rfl (fun c37 => ?_) (fun c37 => ?_)
      · refine hv_iload_n h dX5_numberOfLeadingZeros_48 1 rfl rfl ?_
        refine hv_bipush h (16) dX5_numberOfLeadingZeros_49 (by decide) ?_
        refine hv_icmp_lt h 61 dX5_numberOfLeadingZeros_51 rfl (fun c51 => ?_) (fun c51 => ?_)
        · refine hv_iload_n h dX5_numberOfLeadingZeros_61 1 rfl rfl ?_
          refine hv_iconst h (4) dX5_numberOfLeadingZeros_62 (by decide) ?_
          refine hv_icmp_lt h 73 dX5_numberOfLeadingZeros_63 rfl (fun c63 => ?_) (fun c63 => ?_)
          · refine hv_iload_n h dX5_numberOfLeadingZeros_73 0 rfl rfl ?_
            refine hv_iload_n h dX5_numberOfLeadingZeros_74 1 rfl rfl ?_
            refine hv_iconst h (1) dX5_numberOfLeadingZeros_75 (by decide) ?_
            refine hv_iushr h dX5_numberOfLeadingZeros_76 ?_
            refine hv_isub h dX5_numberOfLeadingZeros_77 ?_
            exact hv_iret h hr hlk hQ dX5_numberOfLeadingZeros_78 ⟨(by simp [hj_nlz, hj_nl, c1, c22, c37, c51, c63]), rfl⟩
          · refine hv_iinc h (31 + Int32.ofInt (-2)) [(1, .int (31 + Int32.ofInt (-2))), (0, .int i0)] dX5_numberOfLeadingZeros_66 0 rfl rfl (by decide) rfl ?_
            refine hv_iload_n h dX5_numberOfLeadingZeros_69 1 rfl rfl ?_
            refine hv_iconst h (2) dX5_numberOfLeadingZeros_70 (by decide) ?_
            refine hv_iushr h dX5_numberOfLeadingZeros_71 ?_
            refine hv_istore_n h [(0, .int (hj_u i0 2)), (1, .int (31 + Int32.ofInt (-2)))] dX5_numberOfLeadingZeros_72 rfl (by decide) rfl ?_
            refine hv_iload_n h dX5_numberOfLeadingZeros_73 1 rfl rfl ?_
            refine hv_iload_n h dX5_numberOfLeadingZeros_74 0 rfl rfl ?_
            refine hv_iconst h (1) dX5_numberOfLeadingZeros_75 (by decide) ?_
            refine hv_iushr h dX5_numberOfLeadingZeros_76 ?_
            refine hv_isub h dX5_numberOfLeadingZeros_77 ?_
            exact hv_iret h hr hlk hQ dX5_numberOfLeadingZeros_78 ⟨(by simp [hj_nlz, hj_nl, c1, c22, c37, c51, c63]), rfl⟩
        · refine hv_iinc h (31 + Int32.ofInt (-4)) [(1, .int (31 + Int32.ofInt (-4))), (0, .int i0)] dX5_numberOfLeadingZeros_54 0 rfl rfl (by decide) rfl ?_
          refine hv_iload_n h dX5_numberOfLeadingZeros_57 1 rfl rfl ?_
          refine hv_iconst h (4) dX5_numberOfLeadingZeros_58 (by decide) ?_
          refine hv_iushr h dX5_numberOfLeadingZeros_59 ?_
          refine hv_istore_n h [(0, .int (hj_u i0 4)), (1, .int (31 + Int32.ofInt (-4)))] dX5_numberOfLeadingZeros_60 rfl (by decide) rfl ?_
          refine hv_iload_n h dX5_numberOfLeadingZeros_61 0 rfl rfl ?_
          refine hv_iconst h (4) dX5_numberOfLeadingZeros_62 (by decide) ?_
          refine hv_icmp_lt h 73 dX5_numberOfLeadingZeros_63 rfl (fun c63 => ?_) (fun c63 => ?_)
          · refine hv_iload_n h dX5_numberOfLeadingZeros_73 1 rfl rfl ?_
            refine hv_iload_n h dX5_numberOfLeadingZeros_74 0 rfl rfl ?_
            refine hv_iconst h (1) dX5_numberOfLeadingZeros_75 (by decide) ?_
            refine hv_iushr h dX5_numberOfLeadingZeros_76 ?_
            refine hv_isub h dX5_numberOfLeadingZeros_77 ?_
            exact hv_iret h hr hlk hQ dX5_numberOfLeadingZeros_78 ⟨(by simp [hj_nlz, hj_nl, c1, c22, c37, c51, c63]), rfl⟩
          · refine hv_iinc h ((31 + Int32.ofInt (-4)) + Int32.ofInt (-2)) [(1, .int ((31 + Int32.ofInt (-4)) + Int32.ofInt (-2))), (0, .int (hj_u i0 4))] dX5_numberOfLeadingZeros_66 1 rfl rfl (by decide) rfl ?_
            refine hv_iload_n h dX5_numberOfLeadingZeros_69 1 rfl rfl ?_
            refine hv_iconst h (2) dX5_numberOfLeadingZeros_70 (by decide) ?_
            refine hv_iushr h dX5_numberOfLeadingZeros_71 ?_
            refine hv_istore_n h [(0, .int (hj_u (hj_u i0 4) 2)), (1, .int ((31 + Int32.ofInt (-4)) + Int32.ofInt (-2)))] dX5_numberOfLeadingZeros_72 rfl (by decide) rfl ?_
            refine hv_iload_n h dX5_numberOfLeadingZeros_73 1 rfl rfl ?_
            refine hv_iload_n h dX5_numberOfLeadingZeros_74 0 rfl rfl ?_
            refine hv_iconst h (1) dX5_numberOfLeadingZeros_75 (by decide) ?_
            refine hv_iushr h dX5_numberOfLeadingZeros_76 ?_
            refine hv_isub h dX5_numberOfLeadingZeros_77 ?_
            exact hv_iret h hr hlk hQ dX5_numberOfLeadingZeros_78 ⟨(by simp [hj_nlz, hj_nl, c1, c22, c37, c51, c63]), rfl⟩
      · refine hv_iinc h (31 + Int32.ofInt (-8)) [(1, .int (31 + Int32.ofInt (-8))), (0, .int i0)] dX5_numberOfLeadingZeros_40 0 rfl rfl (by decide) rfl ?_
        refine hv_iload_n h dX5_numberOfLeadingZeros_43 1 rfl rfl ?_
        refine hv_bipush h (8) dX5_numberOfLeadingZeros_44 (by decide) ?_
        refine hv_iushr h dX5_numberOfLeadingZeros_46 ?_
        refine hv_istore_n h [(0, .int (hj_u i0 8)), (1, .int (31 + Int32.ofInt (-8)))] dX5_numberOfLeadingZeros_47 rfl (by decide) rfl ?_
        refine hv_iload_n h dX5_numberOfLeadingZeros_48 0 rfl rfl ?_
        refine hv_bipush h (16) dX5_numberOfLeadingZeros_49 (by decide) ?_
        refine hv_icmp_lt h 61 dX5_numberOfLeadingZeros_51 rfl (fun c51 => ?_) (fun c51 => ?_)
        · refine hv_iload_n h dX5_numberOfLeadingZeros_61 0 rfl rfl ?_
          refine hv_iconst h (4) dX5_numberOfLeadingZeros_62 (by decide) ?_
          refine hv_icmp_lt h 73 dX5_numberOfLeadingZeros_63 rfl (fun c63 => ?_) (fun c63 => ?_)
          · refine hv_iload_n h dX5_numberOfLeadingZeros_73 1 rfl rfl ?_
            refine hv_iload_n h dX5_numberOfLeadingZeros_74 0 rfl rfl ?_
            refine hv_iconst h (1) dX5_numberOfLeadingZeros_75 (by decide) ?_
            refine hv_iushr h dX5_numberOfLeadingZeros_76 ?_
            refine hv_isub h dX5_numberOfLeadingZeros_77 ?_
            exact hv_iret h hr hlk hQ dX5_numberOfLeadingZeros_78 ⟨(by simp [hj_nlz, hj_nl, c1, c22, c37, c51, c63]), rfl⟩
          · refine hv_iinc h ((31 + Int32.ofInt (-8)) + Int32.ofInt (-2)) [(1, .int ((31 + Int32.ofInt (-8)) + Int32.ofInt (-2))), (0, .int (hj_u i0 8))] dX5_numberOfLeadingZeros_66 1 rfl rfl (by decide) rfl ?_
            refine hv_iload_n h dX5_numberOfLeadingZeros_69 1 rfl rfl ?_
            refine hv_iconst h (2) dX5_numberOfLeadingZeros_70 (by decide) ?_
            refine hv_iushr h dX5_numberOfLeadingZeros_71 ?_
            refine hv_istore_n h [(0, .int (hj_u (hj_u i0 8) 2)), (1, .int ((31 + Int32.ofInt (-8)) + Int32.ofInt (-2)))] dX5_numberOfLeadingZeros_72 rfl (by decide) rfl ?_
            refine hv_iload_n h dX5_numberOfLeadingZeros_73 1 rfl rfl ?_
            refine hv_iload_n h dX5_numberOfLeadingZeros_74 0 rfl rfl ?_
            refine hv_iconst h (1) dX5_numberOfLeadingZeros_75 (by decide) ?_
            refine hv_iushr h dX5_numberOfLeadingZeros_76 ?_
            refine hv_isub h dX5_numberOfLeadingZeros_77 ?_
            exact hv_iret h hr hlk hQ dX5_numberOfLeadingZeros_78 ⟨(by simp [hj_nlz, hj_nl, c1, c22, c37, c51, c63]), rfl⟩
        · refine hv_iinc h ((31 + Int32.ofInt (-8)) + Int32.ofInt (-4)) [(1, .int ((31 + Int32.ofInt (-8)) + Int32.ofInt (-4))), (0, .int (hj_u i0 8))] dX5_numberOfLeadingZeros_54 1 rfl rfl (by decide) rfl ?_
          refine hv_iload_n h dX5_numberOfLeadingZeros_57 1 rfl rfl ?_
          refine hv_iconst h (4) dX5_numberOfLeadingZeros_58 (by decide) ?_
          refine hv_iushr h dX5_numberOfLeadingZeros_59 ?_
          refine hv_istore_n h [(0, .int (hj_u (hj_u i0 8) 4)), (1, .int ((31 + Int32.ofInt (-8)) + Int32.ofInt (-4)))] dX5_numberOfLeadingZeros_60 rfl (by decide) rfl ?_
          refine hv_iload_n h dX5_numberOfLeadingZeros_61 0 rfl rfl ?_
          refine hv_iconst h (4) dX5_numberOfLeadingZeros_62 (by decide) ?_
          refine hv_icmp_lt h 73 dX5_numberOfLeadingZeros_63 rfl (fun c63 => ?_) (fun c63 => ?_)
          · refine hv_iload_n h dX5_numberOfLeadingZeros_73 1 rfl rfl ?_
            refine hv_iload_n h dX5_numberOfLeadingZeros_74 0 rfl rfl ?_
            refine hv_iconst h (1) dX5_numberOfLeadingZeros_75 (by decide) ?_
            refine hv_iushr h dX5_numberOfLeadingZeros_76 ?_
            refine hv_isub h dX5_numberOfLeadingZeros_77 ?_
            exact hv_iret h hr hlk hQ dX5_numberOfLeadingZeros_78 ⟨(by simp [hj_nlz, hj_nl, c1, c22, c37, c51, c63]), rfl⟩
          · refine hv_iinc h (((31 + Int32.ofInt (-8)) + Int32.ofInt (-4)) + Int32.ofInt (-2)) [(1, .int (((31 + Int32.ofInt (-8)) + Int32.ofInt (-4)) + Int32.ofInt (-2))), (0, .int (hj_u (hj_u i0 8) 4))] dX5_numberOfLeadingZeros_66 1 rfl rfl (by decide) rfl ?_
            refine hv_iload_n h dX5_numberOfLeadingZeros_69 1 rfl rfl ?_
            refine hv_iconst h (2) dX5_numberOfLeadingZeros_70 (by decide) ?_
            refine hv_iushr h dX5_numberOfLeadingZeros_71 ?_
            refine hv_istore_n h [(0, .int (hj_u (hj_u (hj_u i0 8) 4) 2)), (1, .int (((31 + Int32.ofInt (-8)) + Int32.ofInt (-4)) + Int32.ofInt (-2)))] dX5_numberOfLeadingZeros_72 rfl (by decide) rfl ?_
            refine hv_iload_n h dX5_numberOfLeadingZeros_73 1 rfl rfl ?_
            refine hv_iload_n h dX5_numberOfLeadingZeros_74 0 rfl rfl ?_
            refine hv_iconst h (1) dX5_numberOfLeadingZeros_75 (by decide) ?_
            refine hv_iushr h dX5_numberOfLeadingZeros_76 ?_
            refine hv_isub h dX5_numberOfLeadingZeros_77 ?_
            exact hv_iret h hr hlk hQ dX5_numberOfLeadingZeros_78 ⟨(by simp [hj_nlz, hj_nl, c1, c22, c37, c51, c63]), rfl⟩
    · refine hv_iinc h (31 + Int32.ofInt (-16)) [(1, .int (31 + Int32.ofInt (-16))), (0, .int i0)] dX5_numberOfLeadingZeros_25 0 rfl rfl (by decide) rfl ?_
      refine hv_iload_n h dX5_numberOfLeadingZeros_28 1 rfl rfl ?_
      refine hv_bipush h (16) dX5_numberOfLeadingZeros_29 (by decide) ?_
      refine hv_iushr h dX5_numberOfLeadingZeros_31 ?_
      refine hv_istore_n h [(0, .int (hj_u i0 16)), (1, .int (31 + Int32.ofInt (-16)))] dX5_numberOfLeadingZeros_32 rfl (by decide) rfl ?_
      refine hv_iload_n h dX5_numberOfLeadingZeros_33 0 rfl rfl ?_
      refine hv_sipush h (256) dX5_numberOfLeadingZeros_34 (by decide) ?_
      refine hv_icmp_lt h 48 dX5_numberOfLeadingZeros_37 rfl (fun c37 => ?_) (fun c37 => ?_)
      · refine hv_iload_n h dX5_numberOfLeadingZeros_48 0 rfl rfl ?_
        refine hv_bipush h (16) dX5_numberOfLeadingZeros_49 (by decide) ?_
        refine hv_icmp_lt h 61 dX5_numberOfLeadingZeros_51 rfl (fun c51 => ?_) (fun c51 => ?_)
        · refine hv_iload_n h dX5_numberOfLeadingZeros_61 0 rfl rfl ?_
          refine hv_iconst h (4) dX5_numberOfLeadingZeros_62 (by decide) ?_
          refine hv_icmp_lt h 73 dX5_numberOfLeadingZeros_63 rfl (fun c63 => ?_) (fun c63 => ?_)
          · refine hv_iload_n h dX5_numberOfLeadingZeros_73 1 rfl rfl ?_
            refine hv_iload_n h dX5_numberOfLeadingZeros_74 0 rfl rfl ?_
            refine hv_iconst h (1) dX5_numberOfLeadingZeros_75 (by decide) ?_
            refine hv_iushr h dX5_numberOfLeadingZeros_76 ?_
            refine hv_isub h dX5_numberOfLeadingZeros_77 ?_
            exact hv_iret h hr hlk hQ dX5_numberOfLeadingZeros_78 ⟨(by simp [hj_nlz, hj_nl, c1, c22, c37, c51, c63]), rfl⟩
          · refine hv_iinc h ((31 + Int32.ofInt (-16)) + Int32.ofInt (-2)) [(1, .int ((31 + Int32.ofInt (-16)) + Int32.ofInt (-2))), (0, .int (hj_u i0 16))] dX5_numberOfLeadingZeros_66 1 rfl rfl (by decide) rfl ?_
            refine hv_iload_n h dX5_numberOfLeadingZeros_69 1 rfl rfl ?_
            refine hv_iconst h (2) dX5_numberOfLeadingZeros_70 (by decide) ?_
            refine hv_iushr h dX5_numberOfLeadingZeros_71 ?_
            refine hv_istore_n h [(0, .int (hj_u (hj_u i0 16) 2)), (1, .int ((31 + Int32.ofInt (-16)) + Int32.ofInt (-2)))] dX5_numberOfLeadingZeros_72 rfl (by decide) rfl ?_
            refine hv_iload_n h dX5_numberOfLeadingZeros_73 1 rfl rfl ?_
            refine hv_iload_n h dX5_numberOfLeadingZeros_74 0 rfl rfl ?_
            refine hv_iconst h (1) dX5_numberOfLeadingZeros_75 (by decide) ?_
            refine hv_iushr h dX5_numberOfLeadingZeros_76 ?_
            refine hv_isub h dX5_numberOfLeadingZeros_77 ?_
            exact hv_iret h hr hlk hQ dX5_numberOfLeadingZeros_78 ⟨(by simp [hj_nlz, hj_nl, c1, c22, c37, c51, c63]), rfl⟩
        · refine hv_iinc h ((31 + Int32.ofInt (-16)) + Int32.ofInt (-4)) [(1, .int ((31 + Int32.ofInt (-16)) + Int32.ofInt (-4))), (0, .int (hj_u i0 16))] dX5_numberOfLeadingZeros_54 1 rfl rfl (by decide) rfl ?_
          refine hv_iload_n h dX5_numberOfLeadingZeros_57 1 rfl rfl ?_
          refine hv_iconst h (4) dX5_numberOfLeadingZeros_58 (by decide) ?_
          refine hv_iushr h dX5_numberOfLeadingZeros_59 ?_
          refine hv_istore_n h [(0, .int (hj_u (hj_u i0 16) 4)), (1, .int ((31 + Int32.ofInt (-16)) + Int32.ofInt (-4)))] dX5_numberOfLeadingZeros_60 rfl (by decide) rfl ?_
          refine hv_iload_n h dX5_numberOfLeadingZeros_61 0 rfl rfl ?_
          refine hv_iconst h (4) dX5_numberOfLeadingZeros_62 (by decide) ?_
          refine hv_icmp_lt h 73 dX5_numberOfLeadingZeros_63 rfl (fun c63 => ?_) (fun c63 => ?_)
          · refine hv_iload_n h dX5_numberOfLeadingZeros_73 1 rfl rfl ?_
            refine hv_iload_n h dX5_numberOfLeadingZeros_74 0 rfl rfl ?_
            refine hv_iconst h (1) dX5_numberOfLeadingZeros_75 (by decide) ?_
            refine hv_iushr h dX5_numberOfLeadingZeros_76 ?_
            refine hv_isub h dX5_numberOfLeadingZeros_77 ?_
            exact hv_iret h hr hlk hQ dX5_numberOfLeadingZeros_78 ⟨(by simp [hj_nlz, hj_nl, c1, c22, c37, c51, c63]), rfl⟩
          · refine hv_iinc h (((31 + Int32.ofInt (-16)) + Int32.ofInt (-4)) + Int32.ofInt (-2)) [(1, .int (((31 + Int32.ofInt (-16)) + Int32.ofInt (-4)) + Int32.ofInt (-2))), (0, .int (hj_u (hj_u i0 16) 4))] dX5_numberOfLeadingZeros_66 1 rfl rfl (by decide) rfl ?_
            refine hv_iload_n h dX5_numberOfLeadingZeros_69 1 rfl rfl ?_
            refine hv_iconst h (2) dX5_numberOfLeadingZeros_70 (by decide) ?_
            refine hv_iushr h dX5_numberOfLeadingZeros_71 ?_
            refine hv_istore_n h [(0, .int (hj_u (hj_u (hj_u i0 16) 4) 2)), (1, .int (((31 + Int32.ofInt (-16)) + Int32.ofInt (-4)) + Int32.ofInt (-2)))] dX5_numberOfLeadingZeros_72 rfl (by decide) rfl ?_
            refine hv_iload_n h dX5_numberOfLeadingZeros_73 1 rfl rfl ?_
            refine hv_iload_n h dX5_numberOfLeadingZeros_74 0 rfl rfl ?_
            refine hv_iconst h (1) dX5_numberOfLeadingZeros_75 (by decide) ?_
            refine hv_iushr h dX5_numberOfLeadingZeros_76 ?_
            refine hv_isub h dX5_numberOfLeadingZeros_77 ?_
            exact hv_iret h hr hlk hQ dX5_numberOfLeadingZeros_78 ⟨(by simp [hj_nlz, hj_nl, c1, c22, c37, c51, c63]), rfl⟩
      · refine hv_iinc h ((31 + Int32.ofInt (-16)) + Int32.ofInt (-8)) [(1, .int ((31 + Int32.ofInt (-16)) + Int32.ofInt (-8))), (0, .int (hj_u i0 16))] dX5_numberOfLeadingZeros_40 1 rfl rfl (by decide) rfl ?_
        refine hv_iload_n h dX5_numberOfLeadingZeros_43 1 rfl rfl ?_
        refine hv_bipush h (8) dX5_numberOfLeadingZeros_44 (by decide) ?_
        refine hv_iushr h dX5_numberOfLeadingZeros_46 ?_
        refine hv_istore_n h [(0, .int (hj_u (hj_u i0 16) 8)), (1, .int ((31 + Int32.ofInt (-16)) + Int32.ofInt (-8)))] dX5_numberOfLeadingZeros_47 rfl (by decide) rfl ?_
        refine hv_iload_n h dX5_numberOfLeadingZeros_48 0 rfl rfl ?_
        refine hv_bipush h (16) dX5_numberOfLeadingZeros_49 (by decide) ?_
        refine hv_icmp_lt h 61 dX5_numberOfLeadingZeros_51 rfl (fun c51 => ?_) (fun c51 => ?_)
        · refine hv_iload_n h dX5_numberOfLeadingZeros_61 0 rfl rfl ?_
          refine hv_iconst h (4) dX5_numberOfLeadingZeros_62 (by decide) ?_
          refine hv_icmp_lt h 73 dX5_numberOfLeadingZeros_63 rfl (fun c63 => ?_) (fun c63 => ?_)
          · refine hv_iload_n h dX5_numberOfLeadingZeros_73 1 rfl rfl ?_
            refine hv_iload_n h dX5_numberOfLeadingZeros_74 0 rfl rfl ?_
            refine hv_iconst h (1) dX5_numberOfLeadingZeros_75 (by decide) ?_
            refine hv_iushr h dX5_numberOfLeadingZeros_76 ?_
            refine hv_isub h dX5_numberOfLeadingZeros_77 ?_
            exact hv_iret h hr hlk hQ dX5_numberOfLeadingZeros_78 ⟨(by simp [hj_nlz, hj_nl, c1, c22, c37, c51, c63]), rfl⟩
          · refine hv_iinc h (((31 + Int32.ofInt (-16)) + Int32.ofInt (-8)) + Int32.ofInt (-2)) [(1, .int (((31 + Int32.ofInt (-16)) + Int32.ofInt (-8)) + Int32.ofInt (-2))), (0, .int (hj_u (hj_u i0 16) 8))] dX5_numberOfLeadingZeros_66 1 rfl rfl (by decide) rfl ?_
            refine hv_iload_n h dX5_numberOfLeadingZeros_69 1 rfl rfl ?_
            refine hv_iconst h (2) dX5_numberOfLeadingZeros_70 (by decide) ?_
            refine hv_iushr h dX5_numberOfLeadingZeros_71 ?_
            refine hv_istore_n h [(0, .int (hj_u (hj_u (hj_u i0 16) 8) 2)), (1, .int (((31 + Int32.ofInt (-16)) + Int32.ofInt (-8)) + Int32.ofInt (-2)))] dX5_numberOfLeadingZeros_72 rfl (by decide) rfl ?_
            refine hv_iload_n h dX5_numberOfLeadingZeros_73 1 rfl rfl ?_
            refine hv_iload_n h dX5_numberOfLeadingZeros_74 0 rfl rfl ?_
            refine hv_iconst h (1) dX5_numberOfLeadingZeros_75 (by decide) ?_
            refine hv_iushr h dX5_numberOfLeadingZeros_76 ?_
            refine hv_isub h dX5_numberOfLeadingZeros_77 ?_
            exact hv_iret h hr hlk hQ dX5_numberOfLeadingZeros_78 ⟨(by simp [hj_nlz, hj_nl, c1, c22, c37, c51, c63]), rfl⟩
        · refine hv_iinc h (((31 + Int32.ofInt (-16)) + Int32.ofInt (-8)) + Int32.ofInt (-4)) [(1, .int (((31 + Int32.ofInt (-16)) + Int32.ofInt (-8)) + Int32.ofInt (-4))), (0, .int (hj_u (hj_u i0 16) 8))] dX5_numberOfLeadingZeros_54 1 rfl rfl (by decide) rfl ?_
          refine hv_iload_n h dX5_numberOfLeadingZeros_57 1 rfl rfl ?_
          refine hv_iconst h (4) dX5_numberOfLeadingZeros_58 (by decide) ?_
          refine hv_iushr h dX5_numberOfLeadingZeros_59 ?_
          refine hv_istore_n h [(0, .int (hj_u (hj_u (hj_u i0 16) 8) 4)), (1, .int (((31 + Int32.ofInt (-16)) + Int32.ofInt (-8)) + Int32.ofInt (-4)))] dX5_numberOfLeadingZeros_60 rfl (by decide) rfl ?_
          refine hv_iload_n h dX5_numberOfLeadingZeros_61 0 rfl rfl ?_
          refine hv_iconst h (4) dX5_numberOfLeadingZeros_62 (by decide) ?_
          refine hv_icmp_lt h 73 dX5_numberOfLeadingZeros_63 rfl (fun c63 => ?_) (fun c63 => ?_)
          · refine hv_iload_n h dX5_numberOfLeadingZeros_73 1 rfl rfl ?_
            refine hv_iload_n h dX5_numberOfLeadingZeros_74 0 rfl rfl ?_
            refine hv_iconst h (1) dX5_numberOfLeadingZeros_75 (by decide) ?_
            refine hv_iushr h dX5_numberOfLeadingZeros_76 ?_
            refine hv_isub h dX5_numberOfLeadingZeros_77 ?_
            exact hv_iret h hr hlk hQ dX5_numberOfLeadingZeros_78 ⟨(by simp [hj_nlz, hj_nl, c1, c22, c37, c51, c63]), rfl⟩
          · refine hv_iinc h ((((31 + Int32.ofInt (-16)) + Int32.ofInt (-8)) + Int32.ofInt (-4)) + Int32.ofInt (-2)) [(1, .int ((((31 + Int32.ofInt (-16)) + Int32.ofInt (-8)) + Int32.ofInt (-4)) + Int32.ofInt (-2))), (0, .int (hj_u (hj_u (hj_u i0 16) 8) 4))] dX5_numberOfLeadingZeros_66 1 rfl rfl (by decide) rfl ?_
            refine hv_iload_n h dX5_numberOfLeadingZeros_69 1 rfl rfl ?_
            refine hv_iconst h (2) dX5_numberOfLeadingZeros_70 (by decide) ?_
            refine hv_iushr h dX5_numberOfLeadingZeros_71 ?_
            refine hv_istore_n h [(0, .int (hj_u (hj_u (hj_u (hj_u i0 16) 8) 4) 2)), (1, .int ((((31 + Int32.ofInt (-16)) + Int32.ofInt (-8)) + Int32.ofInt (-4)) + Int32.ofInt (-2)))] dX5_numberOfLeadingZeros_72 rfl (by decide) rfl ?_
            refine hv_iload_n h dX5_numberOfLeadingZeros_73 1 rfl rfl ?_
            refine hv_iload_n h dX5_numberOfLeadingZeros_74 0 rfl rfl ?_
            refine hv_iconst h (1) dX5_numberOfLeadingZeros_75 (by decide) ?_
            refine hv_iushr h dX5_numberOfLeadingZeros_76 ?_
            refine hv_isub h dX5_numberOfLeadingZeros_77 ?_
            exact hv_iret h hr hlk hQ dX5_numberOfLeadingZeros_78 ⟨(by simp [hj_nlz, hj_nl, c1, c22, c37, c51, c63]), rfl⟩
  · refine hv_iload_n h dX5_numberOfLeadingZeros_4 0 rfl rfl ?_
    refine hv_if_ne h 13 dX5_numberOfLeadingZeros_5 rfl (fun c5 => ?_) (fun c5 => ?_)
    · refine hv_iconst h (0) dX5_numberOfLeadingZeros_13 (by decide) ?_
      exact hv_iret h hr hlk hQ dX5_numberOfLeadingZeros_14 ⟨(by simp [hj_nlz, hj_nl, c1, c5]), rfl⟩
    · refine hv_bipush h (32) dX5_numberOfLeadingZeros_8 (by decide) ?_
      refine hv_goto h 14 dX5_numberOfLeadingZeros_10 rfl ?_
      exact hv_iret h hr hlk hQ dX5_numberOfLeadingZeros_14 ⟨(by simp [hj_nlz, hj_nl, c1, c5]), rfl⟩
abbrev rX5_numberOfTrailingZeros : Room := { frames := 0, cells := 0, slots := 0, locals := 0 }
set_option maxHeartbeats 1000000 in
set_option maxRecDepth 100000 in
theorem k_X5_numberOfTrailingZeros (l : Launch) (D : va_G) (cI cC : ClassId) (ws : va_W) (i0 : Int32) : hsI l yX5_numberOfTrailingZeros wsX5_numberOfTrailingZeros rX5_numberOfTrailingZeros D vwCl (hsT cI cC) [.int i0] ws (fun r w => r = hj_ntz i0 ∧ w = ws) := by
  refine hsI.enter (cc := cX5_numberOfTrailingZeros) (maxL := 2) (ret := (some .int)) (by decide) rfl (Nat.le_of_ble_eq_true rfl) ?_
  intro Pg En Ss Mi Ar Be Me Co AA QQ hQ h hr hlk
  refine hs_lv (lv' := [(0, .int i0)]) rfl ?_
  refine hv_iload_n h dX5_numberOfTrailingZeros_0 0 rfl rfl ?_
  refine hv_iconst h ((-1)) dX5_numberOfTrailingZeros_1 (by decide) ?_
  refine hv_ixor h dX5_numberOfTrailingZeros_2 ?_
  refine hv_iload_n h dX5_numberOfTrailingZeros_3 0 rfl rfl ?_
  refine hv_iconst h (1) dX5_numberOfTrailingZeros_4 (by decide) ?_
  refine hv_isub h dX5_numberOfTrailingZeros_5 ?_
  refine hv_iand h dX5_numberOfTrailingZeros_6 ?_
  refine hv_istore_n h [(0, .int ((i0 ^^^ (-1)) &&& (i0 - 1)))] dX5_numberOfTrailingZeros_7 rfl (by decide) rfl ?_
  refine hs_lv (lv' := [(0, .int (hj_ntm i0))]) rfl ?_
  refine hv_iload_n h dX5_numberOfTrailingZeros_8 0 rfl rfl ?_
  refine hv_if_gt h 17 dX5_numberOfTrailingZeros_9 rfl (fun c9 => ?_) (fun c9 => ?_)
  · refine hv_iconst h (1) dX5_numberOfTrailingZeros_17 (by decide) ?_
    refine hv_istore_n h [(1, .int 1), (0, .int (hj_ntm i0))] dX5_numberOfTrailingZeros_18 rfl (by decide) rfl ?_
    refine hv_iload_n h dX5_numberOfTrailingZeros_19 1 rfl rfl ?_
    refine hv_ldcw h (65536) w_constant_X5_264 dX5_numberOfTrailingZeros_20 ?_
    refine hv_icmp_le h 34 dX5_numberOfTrailingZeros_23 rfl (fun c23 => ?_) (fun c23 => ?_)
    · refine hv_iload_n h dX5_numberOfTrailingZeros_34 1 rfl rfl ?_
      refine hv_sipush h (256) dX5_numberOfTrailingZeros_35 (by decide) ?_
      refine hv_icmp_le h 49 dX5_numberOfTrailingZeros_38 rfl (fun c38 => ?_) (fun c38 => ?_)
      · refine hv_iload_n h dX5_numberOfTrailingZeros_49 1 rfl rfl ?_
        refine hv_bipush h (16) dX5_numberOfTrailingZeros_50 (by decide) ?_
        refine hv_icmp_le h 62 dX5_numberOfTrailingZeros_52 rfl (fun c52 => ?_) (fun c52 => ?_)
        · refine hv_iload_n h dX5_numberOfTrailingZeros_62 1 rfl rfl ?_
          refine hv_iconst h (4) dX5_numberOfTrailingZeros_63 (by decide) ?_
          refine hv_icmp_le h 74 dX5_numberOfTrailingZeros_64 rfl (fun c64 => ?_) (fun c64 => ?_)
          · refine hv_iload_n h dX5_numberOfTrailingZeros_74 0 rfl rfl ?_
            refine hv_iload_n h dX5_numberOfTrailingZeros_75 1 rfl rfl ?_
            refine hv_iconst h (1) dX5_numberOfTrailingZeros_76 (by decide) ?_
            refine hv_iushr h dX5_numberOfTrailingZeros_77 ?_
            refine hv_iadd h dX5_numberOfTrailingZeros_78 ?_
            exact hv_iret h hr hlk hQ dX5_numberOfTrailingZeros_79 ⟨(by simp [hj_ntz, hj_nt, c9, c23, c38, c52, c64]), rfl⟩
          · refine hv_iinc h (1 + Int32.ofInt (2)) [(1, .int (1 + Int32.ofInt (2))), (0, .int (hj_ntm i0))] dX5_numberOfTrailingZeros_67 0 rfl rfl (by decide) rfl ?_
            refine hv_iload_n h dX5_numberOfTrailingZeros_70 1 rfl rfl ?_
            refine hv_iconst h (2) dX5_numberOfTrailingZeros_71 (by decide) ?_
            refine hv_iushr h dX5_numberOfTrailingZeros_72 ?_
            refine hv_istore_n h [(0, .int (hj_u (hj_ntm i0) 2)), (1, .int (1 + Int32.ofInt (2)))] dX5_numberOfTrailingZeros_73 rfl (by decide) rfl ?_
            refine hv_iload_n h dX5_numberOfTrailingZeros_74 1 rfl rfl ?_
            refine hv_iload_n h dX5_numberOfTrailingZeros_75 0 rfl rfl ?_
            refine hv_iconst h (1) dX5_numberOfTrailingZeros_76 (by decide) ?_
            refine hv_iushr h dX5_numberOfTrailingZeros_77 ?_
            refine hv_iadd h dX5_numberOfTrailingZeros_78 ?_
            exact hv_iret h hr hlk hQ dX5_numberOfTrailingZeros_79 ⟨(by simp [hj_ntz, hj_nt, c9, c23, c38, c52, c64]), rfl⟩
        · refine hv_iinc h (1 + Int32.ofInt (4)) [(1, .int (1 + Int32.ofInt (4))), (0, .int (hj_ntm i0))] dX5_numberOfTrailingZeros_55 0 rfl rfl (by decide) rfl ?_
          refine hv_iload_n h dX5_numberOfTrailingZeros_58 1 rfl rfl ?_
          refine hv_iconst h (4) dX5_numberOfTrailingZeros_59 (by decide) ?_
          refine hv_iushr h dX5_numberOfTrailingZeros_60 ?_
          refine hv_istore_n h [(0, .int (hj_u (hj_ntm i0) 4)), (1, .int (1 + Int32.ofInt (4)))] dX5_numberOfTrailingZeros_61 rfl (by decide) rfl ?_
          refine hv_iload_n h dX5_numberOfTrailingZeros_62 0 rfl rfl ?_
          refine hv_iconst h (4) dX5_numberOfTrailingZeros_63 (by decide) ?_
          refine hv_icmp_le h 74 dX5_numberOfTrailingZeros_64 rfl (fun c64 => ?_) (fun c64 => ?_)
          · refine hv_iload_n h dX5_numberOfTrailingZeros_74 1 rfl rfl ?_
            refine hv_iload_n h dX5_numberOfTrailingZeros_75 0 rfl rfl ?_
            refine hv_iconst h (1) dX5_numberOfTrailingZeros_76 (by decide) ?_
            refine hv_iushr h dX5_numberOfTrailingZeros_77 ?_
            refine hv_iadd h dX5_numberOfTrailingZeros_78 ?_
            exact hv_iret h hr hlk hQ dX5_numberOfTrailingZeros_79 ⟨(by simp [hj_ntz, hj_nt, c9, c23, c38, c52, c64]), rfl⟩
          · refine hv_iinc h ((1 + Int32.ofInt (4)) + Int32.ofInt (2)) [(1, .int ((1 + Int32.ofInt (4)) + Int32.ofInt (2))), (0, .int (hj_u (hj_ntm i0) 4))] dX5_numberOfTrailingZeros_67 1 rfl rfl (by decide) rfl ?_
            refine hv_iload_n h dX5_numberOfTrailingZeros_70 1 rfl rfl ?_
            refine hv_iconst h (2) dX5_numberOfTrailingZeros_71 (by decide) ?_
            refine hv_iushr h dX5_numberOfTrailingZeros_72 ?_
            refine hv_istore_n h [(0, .int (hj_u (hj_u (hj_ntm i0) 4) 2)), (1, .int ((1 + Int32.ofInt (4)) + Int32.ofInt (2)))] dX5_numberOfTrailingZeros_73 rfl (by decide) rfl ?_
            refine hv_iload_n h dX5_numberOfTrailingZeros_74 1 rfl rfl ?_
            refine hv_iload_n h dX5_numberOfTrailingZeros_75 0 rfl rfl ?_
            refine hv_iconst h (1) dX5_numberOfTrailingZeros_76 (by decide) ?_
            refine hv_iushr h dX5_numberOfTrailingZeros_77 ?_
            refine hv_iadd h dX5_numberOfTrailingZeros_78 ?_
            exact hv_iret h hr hlk hQ dX5_numberOfTrailingZeros_79 ⟨(by simp [hj_ntz, hj_nt, c9, c23, c38, c52, c64]), rfl⟩
      · refine hv_iinc h (1 + Int32.ofInt (8)) [(1, .int (1 + Int32.ofInt (8))), (0, .int (hj_ntm i0))] dX5_numberOfTrailingZeros_41 0 rfl rfl (by decide) rfl ?_
        refine hv_iload_n h dX5_numberOfTrailingZeros_44 1 rfl rfl ?_
        refine hv_bipush h (8) dX5_numberOfTrailingZeros_45 (by decide) ?_
        refine hv_iushr h dX5_numberOfTrailingZeros_47 ?_
        refine hv_istore_n h [(0, .int (hj_u (hj_ntm i0) 8)), (1, .int (1 + Int32.ofInt (8)))] dX5_numberOfTrailingZeros_48 rfl (by decide) rfl ?_
        refine hv_iload_n h dX5_numberOfTrailingZeros_49 0 rfl rfl ?_
        refine hv_bipush h (16) dX5_numberOfTrailingZeros_50 (by decide) ?_
        refine hv_icmp_le h 62 dX5_numberOfTrailingZeros_52 rfl (fun c52 => ?_) (fun c52 => ?_)
        · refine hv_iload_n h dX5_numberOfTrailingZeros_62 0 rfl rfl ?_
          refine hv_iconst h (4) dX5_numberOfTrailingZeros_63 (by decide) ?_
          refine hv_icmp_le h 74 dX5_numberOfTrailingZeros_64 rfl (fun c64 => ?_) (fun c64 => ?_)
          · refine hv_iload_n h dX5_numberOfTrailingZeros_74 1 rfl rfl ?_
            refine hv_iload_n h dX5_numberOfTrailingZeros_75 0 rfl rfl ?_
            refine hv_iconst h (1) dX5_numberOfTrailingZeros_76 (by decide) ?_
            refine hv_iushr h dX5_numberOfTrailingZeros_77 ?_
            refine hv_iadd h dX5_numberOfTrailingZeros_78 ?_
            exact hv_iret h hr hlk hQ dX5_numberOfTrailingZeros_79 ⟨(by simp [hj_ntz, hj_nt, c9, c23, c38, c52, c64]), rfl⟩
          · refine hv_iinc h ((1 + Int32.ofInt (8)) + Int32.ofInt (2)) [(1, .int ((1 + Int32.ofInt (8)) + Int32.ofInt (2))), (0, .int (hj_u (hj_ntm i0) 8))] dX5_numberOfTrailingZeros_67 1 rfl rfl (by decide) rfl ?_
            refine hv_iload_n h dX5_numberOfTrailingZeros_70 1 rfl rfl ?_
            refine hv_iconst h (2) dX5_numberOfTrailingZeros_71 (by decide) ?_
            refine hv_iushr h dX5_numberOfTrailingZeros_72 ?_
            refine hv_istore_n h [(0, .int (hj_u (hj_u (hj_ntm i0) 8) 2)), (1, .int ((1 + Int32.ofInt (8)) + Int32.ofInt (2)))] dX5_numberOfTrailingZeros_73 rfl (by decide) rfl ?_
            refine hv_iload_n h dX5_numberOfTrailingZeros_74 1 rfl rfl ?_
            refine hv_iload_n h dX5_numberOfTrailingZeros_75 0 rfl rfl ?_
            refine hv_iconst h (1) dX5_numberOfTrailingZeros_76 (by decide) ?_
            refine hv_iushr h dX5_numberOfTrailingZeros_77 ?_
            refine hv_iadd h dX5_numberOfTrailingZeros_78 ?_
            exact hv_iret h hr hlk hQ dX5_numberOfTrailingZeros_79 ⟨(by simp [hj_ntz, hj_nt, c9, c23, c38, c52, c64]), rfl⟩
        · refine hv_iinc h ((1 + Int32.ofInt (8)) + Int32.ofInt (4)) [(1, .int ((1 + Int32.ofInt (8)) + Int32.ofInt (4))), (0, .int (hj_u (hj_ntm i0) 8))] dX5_numberOfTrailingZeros_55 1 rfl rfl (by decide) rfl ?_
          refine hv_iload_n h dX5_numberOfTrailingZeros_58 1 rfl rfl ?_
          refine hv_iconst h (4) dX5_numberOfTrailingZeros_59 (by decide) ?_
          refine hv_iushr h dX5_numberOfTrailingZeros_60 ?_
          refine hv_istore_n h [(0, .int (hj_u (hj_u (hj_ntm i0) 8) 4)), (1, .int ((1 + Int32.ofInt (8)) + Int32.ofInt (4)))] dX5_numberOfTrailingZeros_61 rfl (by decide) rfl ?_
          refine hv_iload_n h dX5_numberOfTrailingZeros_62 0 rfl rfl ?_
          refine hv_iconst h (4) dX5_numberOfTrailingZeros_63 (by decide) ?_
          refine hv_icmp_le h 74 dX5_numberOfTrailingZeros_64 rfl (fun c64 => ?_) (fun c64 => ?_)
          · refine hv_iload_n h dX5_numberOfTrailingZeros_74 1 rfl rfl ?_
            refine hv_iload_n h dX5_numberOfTrailingZeros_75 0 rfl rfl ?_
            refine hv_iconst h (1) dX5_numberOfTrailingZeros_76 (by decide) ?_
            refine hv_iushr h dX5_numberOfTrailingZeros_77 ?_
            refine hv_iadd h dX5_numberOfTrailingZeros_78 ?_
            exact hv_iret h hr hlk hQ dX5_numberOfTrailingZeros_79 ⟨(by simp [hj_ntz, hj_nt, c9, c23, c38, c52, c64]), rfl⟩
          · refine hv_iinc h (((1 + Int32.ofInt (8)) + Int32.ofInt (4)) + Int32.ofInt (2)) [(1, .int (((1 + Int32.ofInt (8)) + Int32.ofInt (4)) + Int32.ofInt (2))), (0, .int (hj_u (hj_u (hj_ntm i0) 8) 4))] dX5_numberOfTrailingZeros_67 1 rfl rfl (by decide) rfl ?_
            refine hv_iload_n h dX5_numberOfTrailingZeros_70 1 rfl rfl ?_
            refine hv_iconst h (2) dX5_numberOfTrailingZeros_71 (by decide) ?_
            refine hv_iushr h dX5_numberOfTrailingZeros_72 ?_
            refine hv_istore_n h [(0, .int (hj_u (hj_u (hj_u (hj_ntm i0) 8) 4) 2)), (1, .int (((1 + Int32.ofInt (8)) + Int32.ofInt (4)) + Int32.ofInt (2)))] dX5_numberOfTrailingZeros_73 rfl (by decide) rfl ?_
            refine hv_iload_n h dX5_numberOfTrailingZeros_74 1 rfl rfl ?_
            refine hv_iload_n h dX5_numberOfTrailingZeros_75 0 rfl rfl ?_
            refine hv_iconst h (1) dX5_numberOfTrailingZeros_76 (by decide) ?_
            refine hv_iushr h dX5_numberOfTrailingZeros_77 ?_
            refine hv_iadd h dX5_numberOfTrailingZeros_78 ?_
            exact hv_iret h hr hlk hQ dX5_numberOfTrailingZeros_79 ⟨(by simp [hj_ntz, hj_nt, c9, c23, c38, c52, c64]), rfl⟩
    · refine hv_iinc h (1 + Int32.ofInt (16)) [(1, .int (1 + Int32.ofInt (16))), (0, .int (hj_ntm i0))] dX5_numberOfTrailingZeros_26 0 rfl rfl (by decide) rfl ?_
      refine hv_iload_n h dX5_numberOfTrailingZeros_29 1 rfl rfl ?_
      refine hv_bipush h (16) dX5_numberOfTrailingZeros_30 (by decide) ?_
      refine hv_iushr h dX5_numberOfTrailingZeros_32 ?_
      refine hv_istore_n h [(0, .int (hj_u (hj_ntm i0) 16)), (1, .int (1 + Int32.ofInt (16)))] dX5_numberOfTrailingZeros_33 rfl (by decide) rfl ?_
      refine hv_iload_n h dX5_numberOfTrailingZeros_34 0 rfl rfl ?_
      refine hv_sipush h (256) dX5_numberOfTrailingZeros_35 (by decide) ?_
      refine hv_icmp_le h 49 dX5_numberOfTrailingZeros_38 rfl (fun c38 => ?_) (fun c38 => ?_)
      · refine hv_iload_n h dX5_numberOfTrailingZeros_49 0 rfl rfl ?_
        refine hv_bipush h (16) dX5_numberOfTrailingZeros_50 (by decide) ?_
        refine hv_icmp_le h 62 dX5_numberOfTrailingZeros_52 rfl (fun c52 => ?_) (fun c52 => ?_)
        · refine hv_iload_n h dX5_numberOfTrailingZeros_62 0 rfl rfl ?_
          refine hv_iconst h (4) dX5_numberOfTrailingZeros_63 (by decide) ?_
          refine hv_icmp_le h 74 dX5_numberOfTrailingZeros_64 rfl (fun c64 => ?_) (fun c64 => ?_)
          · refine hv_iload_n h dX5_numberOfTrailingZeros_74 1 rfl rfl ?_
            refine hv_iload_n h dX5_numberOfTrailingZeros_75 0 rfl rfl ?_
            refine hv_iconst h (1) dX5_numberOfTrailingZeros_76 (by decide) ?_
            refine hv_iushr h dX5_numberOfTrailingZeros_77 ?_
            refine hv_iadd h dX5_numberOfTrailingZeros_78 ?_
            exact hv_iret h hr hlk hQ dX5_numberOfTrailingZeros_79 ⟨(by simp [hj_ntz, hj_nt, c9, c23, c38, c52, c64]), rfl⟩
          · refine hv_iinc h ((1 + Int32.ofInt (16)) + Int32.ofInt (2)) [(1, .int ((1 + Int32.ofInt (16)) + Int32.ofInt (2))), (0, .int (hj_u (hj_ntm i0) 16))] dX5_numberOfTrailingZeros_67 1 rfl rfl (by decide) rfl ?_
            refine hv_iload_n h dX5_numberOfTrailingZeros_70 1 rfl rfl ?_
            refine hv_iconst h (2) dX5_numberOfTrailingZeros_71 (by decide) ?_
            refine hv_iushr h dX5_numberOfTrailingZeros_72 ?_
            refine hv_istore_n h [(0, .int (hj_u (hj_u (hj_ntm i0) 16) 2)), (1, .int ((1 + Int32.ofInt (16)) + Int32.ofInt (2)))] dX5_numberOfTrailingZeros_73 rfl (by decide) rfl ?_
            refine hv_iload_n h dX5_numberOfTrailingZeros_74 1 rfl rfl ?_
            refine hv_iload_n h dX5_numberOfTrailingZeros_75 0 rfl rfl ?_
            refine hv_iconst h (1) dX5_numberOfTrailingZeros_76 (by decide) ?_
            refine hv_iushr h dX5_numberOfTrailingZeros_77 ?_
            refine hv_iadd h dX5_numberOfTrailingZeros_78 ?_
            exact hv_iret h hr hlk hQ dX5_numberOfTrailingZeros_79 ⟨(by simp [hj_ntz, hj_nt, c9, c23, c38, c52, c64]), rfl⟩
        · refine hv_iinc h ((1 + Int32.ofInt (16)) + Int32.ofInt (4)) [(1, .int ((1 + Int32.ofInt (16)) + Int32.ofInt (4))), (0, .int (hj_u (hj_ntm i0) 16))] dX5_numberOfTrailingZeros_55 1 rfl rfl (by decide) rfl ?_
          refine hv_iload_n h dX5_numberOfTrailingZeros_58 1 rfl rfl ?_
          refine hv_iconst h (4) dX5_numberOfTrailingZeros_59 (by decide) ?_
          refine hv_iushr h dX5_numberOfTrailingZeros_60 ?_
          refine hv_istore_n h [(0, .int (hj_u (hj_u (hj_ntm i0) 16) 4)), (1, .int ((1 + Int32.ofInt (16)) + Int32.ofInt (4)))] dX5_numberOfTrailingZeros_61 rfl (by decide) rfl ?_
          refine hv_iload_n h dX5_numberOfTrailingZeros_62 0 rfl rfl ?_
          refine hv_iconst h (4) dX5_numberOfTrailingZeros_63 (by decide) ?_
          refine hv_icmp_le h 74 dX5_numberOfTrailingZeros_64 rfl (fun c64 => ?_) (fun c64 => ?_)
          · refine hv_iload_n h dX5_numberOfTrailingZeros_74 1 rfl rfl ?_
            refine hv_iload_n h dX5_numberOfTrailingZeros_75 0 rfl rfl ?_
            refine hv_iconst h (1) dX5_numberOfTrailingZeros_76 (by decide) ?_
            refine hv_iushr h dX5_numberOfTrailingZeros_77 ?_
            refine hv_iadd h dX5_numberOfTrailingZeros_78 ?_
            exact hv_iret h hr hlk hQ dX5_numberOfTrailingZeros_79 ⟨(by simp [hj_ntz, hj_nt, c9, c23, c38, c52, c64]), rfl⟩
          · refine hv_iinc h (((1 + Int32.ofInt (16)) + Int32.ofInt (4)) + Int32.ofInt (2)) [(1, .int (((1 + Int32.ofInt (16)) + Int32.ofInt (4)) + Int32.ofInt (2))), (0, .int (hj_u (hj_u (hj_ntm i0) 16) 4))] dX5_numberOfTrailingZeros_67 1 rfl rfl (by decide) rfl ?_
            refine hv_iload_n h dX5_numberOfTrailingZeros_70 1 rfl rfl ?_
            refine hv_iconst h (2) dX5_numberOfTrailingZeros_71 (by decide) ?_
            refine hv_iushr h dX5_numberOfTrailingZeros_72 ?_
            refine hv_istore_n h [(0, .int (hj_u (hj_u (hj_u (hj_ntm i0) 16) 4) 2)), (1, .int (((1 + Int32.ofInt (16)) + Int32.ofInt (4)) + Int32.ofInt (2)))] dX5_numberOfTrailingZeros_73 rfl (by decide) rfl ?_
            refine hv_iload_n h dX5_numberOfTrailingZeros_74 1 rfl rfl ?_
            refine hv_iload_n h dX5_numberOfTrailingZeros_75 0 rfl rfl ?_
            refine hv_iconst h (1) dX5_numberOfTrailingZeros_76 (by decide) ?_
            refine hv_iushr h dX5_numberOfTrailingZeros_77 ?_
            refine hv_iadd h dX5_numberOfTrailingZeros_78 ?_
            exact hv_iret h hr hlk hQ dX5_numberOfTrailingZeros_79 ⟨(by simp [hj_ntz, hj_nt, c9, c23, c38, c52, c64]), rfl⟩
      · refine hv_iinc h ((1 + Int32.ofInt (16)) + Int32.ofInt (8)) [(1, .int ((1 + Int32.ofInt (16)) + Int32.ofInt (8))), (0, .int (hj_u (hj_ntm i0) 16))] dX5_numberOfTrailingZeros_41 1 rfl rfl (by decide) rfl ?_
        refine hv_iload_n h dX5_numberOfTrailingZeros_44 1 rfl rfl ?_
        refine hv_bipush h (8) dX5_numberOfTrailingZeros_45 (by decide) ?_
        refine hv_iushr h dX5_numberOfTrailingZeros_47 ?_
        refine hv_istore_n h [(0, .int (hj_u (hj_u (hj_ntm i0) 16) 8)), (1, .int ((1 + Int32.ofInt (16)) + Int32.ofInt (8)))] dX5_numberOfTrailingZeros_48 rfl (by decide) rfl ?_
        refine hv_iload_n h dX5_numberOfTrailingZeros_49 0 rfl rfl ?_
        refine hv_bipush h (16) dX5_numberOfTrailingZeros_50 (by decide) ?_
        refine hv_icmp_le h 62 dX5_numberOfTrailingZeros_52 rfl (fun c52 => ?_) (fun c52 => ?_)
        · refine hv_iload_n h dX5_numberOfTrailingZeros_62 0 rfl rfl ?_
          refine hv_iconst h (4) dX5_numberOfTrailingZeros_63 (by decide) ?_
          refine hv_icmp_le h 74 dX5_numberOfTrailingZeros_64 rfl (fun c64 => ?_) (fun c64 => ?_)
          · refine hv_iload_n h dX5_numberOfTrailingZeros_74 1 rfl rfl ?_
            refine hv_iload_n h dX5_numberOfTrailingZeros_75 0 rfl rfl ?_
            refine hv_iconst h (1) dX5_numberOfTrailingZeros_76 (by decide) ?_
            refine hv_iushr h dX5_numberOfTrailingZeros_77 ?_
            refine hv_iadd h dX5_numberOfTrailingZeros_78 ?_
            exact hv_iret h hr hlk hQ dX5_numberOfTrailingZeros_79 ⟨(by simp [hj_ntz, hj_nt, c9, c23, c38, c52, c64]), rfl⟩
          · refine hv_iinc h (((1 + Int32.ofInt (16)) + Int32.ofInt (8)) + Int32.ofInt (2)) [(1, .int (((1 + Int32.ofInt (16)) + Int32.ofInt (8)) + Int32.ofInt (2))), (0, .int (hj_u (hj_u (hj_ntm i0) 16) 8))] dX5_numberOfTrailingZeros_67 1 rfl rfl (by decide) rfl ?_
            refine hv_iload_n h dX5_numberOfTrailingZeros_70 1 rfl rfl ?_
            refine hv_iconst h (2) dX5_numberOfTrailingZeros_71 (by decide) ?_
            refine hv_iushr h dX5_numberOfTrailingZeros_72 ?_
            refine hv_istore_n h [(0, .int (hj_u (hj_u (hj_u (hj_ntm i0) 16) 8) 2)), (1, .int (((1 + Int32.ofInt (16)) + Int32.ofInt (8)) + Int32.ofInt (2)))] dX5_numberOfTrailingZeros_73 rfl (by decide) rfl ?_
            refine hv_iload_n h dX5_numberOfTrailingZeros_74 1 rfl rfl ?_
            refine hv_iload_n h dX5_numberOfTrailingZeros_75 0 rfl rfl ?_
            refine hv_iconst h (1) dX5_numberOfTrailingZeros_76 (by decide) ?_
            refine hv_iushr h dX5_numberOfTrailingZeros_77 ?_
            refine hv_iadd h dX5_numberOfTrailingZeros_78 ?_
            exact hv_iret h hr hlk hQ dX5_numberOfTrailingZeros_79 ⟨(by simp [hj_ntz, hj_nt, c9, c23, c38, c52, c64]), rfl⟩
        · refine hv_iinc h (((1 + Int32.ofInt (16)) + Int32.ofInt (8)) + Int32.ofInt (4)) [(1, .int (((1 + Int32.ofInt (16)) + Int32.ofInt (8)) + Int32.ofInt (4))), (0, .int (hj_u (hj_u (hj_ntm i0) 16) 8))] dX5_numberOfTrailingZeros_55 1 rfl rfl (by decide) rfl ?_
          refine hv_iload_n h dX5_numberOfTrailingZeros_58 1 rfl rfl ?_
          refine hv_iconst h (4) dX5_numberOfTrailingZeros_59 (by decide) ?_
          refine hv_iushr h dX5_numberOfTrailingZeros_60 ?_
          refine hv_istore_n h [(0, .int (hj_u (hj_u (hj_u (hj_ntm i0) 16) 8) 4)), (1, .int (((1 + Int32.ofInt (16)) + Int32.ofInt (8)) + Int32.ofInt (4)))] dX5_numberOfTrailingZeros_61 rfl (by decide) rfl ?_
          refine hv_iload_n h dX5_numberOfTrailingZeros_62 0 rfl rfl ?_
          refine hv_iconst h (4) dX5_numberOfTrailingZeros_63 (by decide) ?_
          refine hv_icmp_le h 74 dX5_numberOfTrailingZeros_64 rfl (fun c64 => ?_) (fun c64 => ?_)
          · refine hv_iload_n h dX5_numberOfTrailingZeros_74 1 rfl rfl ?_
            refine hv_iload_n h dX5_numberOfTrailingZeros_75 0 rfl rfl ?_
            refine hv_iconst h (1) dX5_numberOfTrailingZeros_76 (by decide) ?_
            refine hv_iushr h dX5_numberOfTrailingZeros_77 ?_
            refine hv_iadd h dX5_numberOfTrailingZeros_78 ?_
            exact hv_iret h hr hlk hQ dX5_numberOfTrailingZeros_79 ⟨(by simp [hj_ntz, hj_nt, c9, c23, c38, c52, c64]), rfl⟩
          · refine hv_iinc h ((((1 + Int32.ofInt (16)) + Int32.ofInt (8)) + Int32.ofInt (4)) + Int32.ofInt (2)) [(1, .int ((((1 + Int32.ofInt (16)) + Int32.ofInt (8)) + Int32.ofInt (4)) + Int32.ofInt (2))), (0, .int (hj_u (hj_u (hj_u (hj_ntm i0) 16) 8) 4))] dX5_numberOfTrailingZeros_67 1 rfl rfl (by decide) rfl ?_
            refine hv_iload_n h dX5_numberOfTrailingZeros_70 1 rfl rfl ?_
            refine hv_iconst h (2) dX5_numberOfTrailingZeros_71 (by decide) ?_
            refine hv_iushr h dX5_numberOfTrailingZeros_72 ?_
            refine hv_istore_n h [(0, .int (hj_u (hj_u (hj_u (hj_u (hj_ntm i0) 16) 8) 4) 2)), (1, .int ((((1 + Int32.ofInt (16)) + Int32.ofInt (8)) + Int32.ofInt (4)) + Int32.ofInt (2)))] dX5_numberOfTrailingZeros_73 rfl (by decide) rfl ?_
            refine hv_iload_n h dX5_numberOfTrailingZeros_74 1 rfl rfl ?_
            refine hv_iload_n h dX5_numberOfTrailingZeros_75 0 rfl rfl ?_
            refine hv_iconst h (1) dX5_numberOfTrailingZeros_76 (by decide) ?_
            refine hv_iushr h dX5_numberOfTrailingZeros_77 ?_
            refine hv_iadd h dX5_numberOfTrailingZeros_78 ?_
            exact hv_iret h hr hlk hQ dX5_numberOfTrailingZeros_79 ⟨(by simp [hj_ntz, hj_nt, c9, c23, c38, c52, c64]), rfl⟩
  · refine hv_iload_n h dX5_numberOfTrailingZeros_12 0 rfl rfl ?_
    refine hv_bipush h (32) dX5_numberOfTrailingZeros_13 (by decide) ?_
    refine hv_iand h dX5_numberOfTrailingZeros_15 ?_
    exact hv_iret h hr hlk hQ dX5_numberOfTrailingZeros_16 ⟨(by simp [hj_ntz, hj_nt, c9]), rfl⟩
