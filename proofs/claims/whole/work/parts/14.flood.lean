abbrev rX3_take : Room := { frames := 1, cells := 0, slots := 0, locals := 20 }
set_option maxHeartbeats 1000000 in
set_option maxRecDepth 100000 in
theorem k_X3_take (l : Launch) (D : va_G) (cI cC : ClassId) (g : Nat → Nat) (cols : Nat → Nat → Int32) (sol oth : Nat → Nat) (out : Nat) (num : Nat → Int32) (od dn tb : Int32) (X : HF) (m0 m1 m2 m3 m4 : Nat × va_E) (x0 : Int32) (y0 : Int32) (b0 : Int32) (hen : X.2.2 ≤ 1728) : hsN l yX3_take wsX3_take rX3_take D vwCl (hsT cI cC) [.ref (g 5), .int x0, .int y0, .int b0] (hsW g cI cC cols sol oth out num od dn tb X.1 X.2.1 (nI X.2.2) m0 m1 m2 m3 m4) (fun w => w = (hsW g cI cC cols sol oth out num od dn tb ((hf_take x0 y0 b0 X).1) ((hf_take x0 y0 b0 X).2.1) (nI (hf_take x0 y0 b0 X).2.2) m0 m1 m2 m3 m4)) := by
  refine hsN.enter (cc := cX3_take) (maxL := 6) (ret := none) (by decide) rfl (Nat.le_of_ble_eq_true rfl) ?_
  intro Pg En Ss Mi Ar Be Me Co AA QQ hQ h hr hlk
  refine hs_lv (lv' := [(0, .ref (g 5)), (1, .int x0), (2, .int y0), (3, .int b0)]) rfl ?_
  refine hv_iload_n h dX3_take_0 1 rfl rfl ?_
  refine hv_callp (ws' := (hsW g cI cC cols sol oth out num od dn tb X.1 X.2.1 (nI X.2.2) m0 m1 m2 m3 m4)) (v := hx_b (hx_in x0 12)) h (hr_SNi (n := 1) (rest := []) h (k_X0_isCoordinate l D cI cC (hsW g cI cC cols sol oth out num od dn tb X.1 X.2.1 (nI X.2.2) m0 m1 m2 m3 m4) x0) (List.mem_of_getElem? (i := 3) rfl) w_static_X0_isCoordinate w_initialized_X0 w_code_X0_isCoordinate (by decide +kernel) rfl rfl rfl ⟨by decide, by decide⟩ rfl (Nat.le_of_ble_eq_true rfl) ⟨Nat.zero_le _, Nat.zero_le _⟩ dX3_take_1) ?_
  refine hv_bif_eq h 14 dX3_take_4 rfl (fun c4 => ?_) (fun c4 => ?_)
  · exact hv_vret h hr hlk hQ dX3_take_14 (by simp [hf_take, c4])
  · refine hv_iload_n h dX3_take_7 2 rfl rfl ?_
    refine hv_callp (ws' := (hsW g cI cC cols sol oth out num od dn tb X.1 X.2.1 (nI X.2.2) m0 m1 m2 m3 m4)) (v := hx_b (hx_in y0 12)) h (hr_SNi (n := 1) (rest := []) h (k_X0_isCoordinate l D cI cC (hsW g cI cC cols sol oth out num od dn tb X.1 X.2.1 (nI X.2.2) m0 m1 m2 m3 m4) y0) (List.mem_of_getElem? (i := 3) rfl) w_static_X0_isCoordinate w_initialized_X0 w_code_X0_isCoordinate (by decide +kernel) rfl rfl rfl ⟨by decide, by decide⟩ rfl (Nat.le_of_ble_eq_true rfl) ⟨Nat.zero_le _, Nat.zero_le _⟩ dX3_take_8) ?_
    refine hv_bif_ne h 15 dX3_take_11 rfl (fun c11 => ?_) (fun c11 => ?_)
    · refine hv_iload_n h dX3_take_15 1 rfl rfl ?_
      refine hv_bipush h (12) dX3_take_16 (by decide) ?_
      refine hv_imul h dX3_take_18 ?_
      refine hv_iload_n h dX3_take_19 2 rfl rfl ?_
      refine hv_iadd h dX3_take_20 ?_
      refine hv_istore h [(4, .int ((x0 * 12) + y0)), (0, .ref (g 5)), (1, .int x0), (2, .int y0), (3, .int b0)] dX3_take_21 (by decide) rfl ?_
      refine hv_aload_n h dX3_take_23 1 rfl rfl ?_
      refine hv_get (C := RX3) (T := TX3) (N := 3) h 5 rfl rfl 0 (by decide) wu_X3 w_fieldLink_X3_9 (fun _ h9 => h9) rfl dX3_take_24 ?_
      refine hv_iload h dX3_take_27 0 rfl ?_
      refine hv_iald (v := X.1 ((x0 * 12) + y0).toNatClampNeg) h 6 0 rfl rfl (hx_col_vp c4 c11) rfl dX3_take_29 ?_
      refine hv_iload_n h dX3_take_30 4 rfl rfl ?_
      refine hv_iand h dX3_take_31 ?_
      refine hv_istore h [(5, .int ((X.1 ((x0 * 12) + y0).toNatClampNeg) &&& b0)), (4, .int ((x0 * 12) + y0)), (0, .ref (g 5)), (1, .int x0), (2, .int y0), (3, .int b0)] dX3_take_32 (by decide) rfl ?_
      refine hv_iload h dX3_take_34 0 rfl ?_
      refine hv_if_eq h 90 dX3_take_36 rfl (fun c36 => ?_) (fun c36 => ?_)
      · exact hv_vret h hr hlk hQ dX3_take_90 (by simp [hf_take, c4, c11, c36])
      · refine hv_aload_n h dX3_take_39 2 rfl rfl ?_
        refine hv_get (C := RX3) (T := TX3) (N := 3) h 5 rfl rfl 2 (by decide) wu_X3 w_fieldLink_X3_30 (fun _ h9 => h9) rfl dX3_take_40 ?_
        refine hv_aload_n h dX3_take_43 2 rfl rfl ?_
        refine hv_get (C := RX3) (T := TX3) (N := 3) h 5 rfl rfl 1 (by decide) wu_X3 w_fieldLink_X3_15 (fun _ h9 => h9) rfl dX3_take_44 ?_
        refine hv_alen h 7 0 (1728) rfl rfl rfl dX3_take_47 ?_
        refine hv_icmp_ge h 90 dX3_take_48 rfl (fun c48 => ?_) (fun c48 => ?_)
        · have hge : ¬ X.2.2 < 1728 := fun q => (nI_ge q (by decide)) c48
          exact hv_vret h hr hlk hQ dX3_take_90 (by simp [hf_take, c4, c11, c36, hge])
        · have hlt : X.2.2 < 1728 := Nat.lt_of_not_le (fun q => c48 (nI_le (a := 1728) q (by omega)))
          refine hv_aload_n h dX3_take_51 2 rfl rfl ?_
          refine hv_get (C := RX3) (T := TX3) (N := 3) h 5 rfl rfl 0 (by decide) wu_X3 w_fieldLink_X3_9 (fun _ h9 => h9) rfl dX3_take_52 ?_
          refine hv_iload h dX3_take_55 1 rfl ?_
          refine hv_dup2 h dX3_take_57 rfl rfl ?_
          refine hv_iald (v := X.1 ((x0 * 12) + y0).toNatClampNeg) h 6 0 rfl rfl (hx_col_vp c4 c11) rfl dX3_take_58 ?_
          refine hv_iload h dX3_take_59 0 rfl ?_
          refine hv_ixor h dX3_take_61 ?_
          refine hv_iast (ws' := (hsW g cI cC cols sol oth out num od dn tb (upd X.1 ((x0 * 12) + y0).toNatClampNeg ((X.1 ((x0 * 12) + y0).toNatClampNeg) ^^^ ((X.1 ((x0 * 12) + y0).toNatClampNeg) &&& b0))) X.2.1 (nI X.2.2) m0 m1 m2 m3 m4)) h 6 0 rfl rfl (hx_col_vp c4 c11) dX3_take_62 rfl ?_
          refine hv_aload_n h dX3_take_63 2 rfl rfl ?_
          refine hv_get (C := RX3) (T := TX3) (N := 3) h 5 rfl rfl 1 (by decide) wu_X3 w_fieldLink_X3_15 (fun _ h9 => h9) rfl dX3_take_64 ?_
          refine hv_aload_n h dX3_take_67 2 rfl rfl ?_
          refine hv_get (C := RX3) (T := TX3) (N := 3) h 5 rfl rfl 2 (by decide) wu_X3 w_fieldLink_X3_30 (fun _ h9 => h9) rfl dX3_take_68 ?_
          refine hv_iload h dX3_take_71 1 rfl ?_
          refine hv_bipush h (12) dX3_take_73 (by decide) ?_
          refine hv_ishl h dX3_take_75 ?_
          refine hv_iload h dX3_take_76 0 rfl ?_
          refine hv_ior h dX3_take_78 ?_
          refine hv_iast (ws' := (hsW g cI cC cols sol oth out num od dn tb (upd X.1 ((x0 * 12) + y0).toNatClampNeg ((X.1 ((x0 * 12) + y0).toNatClampNeg) ^^^ ((X.1 ((x0 * 12) + y0).toNatClampNeg) &&& b0))) (upd X.2.1 X.2.2 ((((x0 * 12) + y0) <<< ((12 : Int32) &&& 31)) ||| ((X.1 ((x0 * 12) + y0).toNatClampNeg) &&& b0))) (nI X.2.2) m0 m1 m2 m3 m4)) h 7 0 rfl rfl (vp_in_nI hlt (by decide)) dX3_take_79 (by rw [nI_clamp (by omega)]; rfl) ?_
          refine hv_aload_n h dX3_take_80 2 rfl rfl ?_
          refine hv_dup h dX3_take_81 rfl ?_
          refine hv_get (C := RX3) (T := TX3) (N := 3) h 5 rfl rfl 2 (by decide) wu_X3 w_fieldLink_X3_30 (fun _ h9 => h9) rfl dX3_take_82 ?_
          refine hv_iconst h (1) dX3_take_85 (by decide) ?_
          refine hw_iadd h (nI (X.2.2 + 1)) dX3_take_86 (nI_add X.2.2 1) ?_
          refine hv_put (ws' := (hsW g cI cC cols sol oth out num od dn tb (upd X.1 ((x0 * 12) + y0).toNatClampNeg ((X.1 ((x0 * 12) + y0).toNatClampNeg) ^^^ ((X.1 ((x0 * 12) + y0).toNatClampNeg) &&& b0))) (upd X.2.1 X.2.2 ((((x0 * 12) + y0) <<< ((12 : Int32) &&& 31)) ||| ((X.1 ((x0 * 12) + y0).toNatClampNeg) &&& b0))) (nI (X.2.2 + 1)) m0 m1 m2 m3 m4)) (ty := .int) (C := RX3) (T := TX3) (N := 3) h 5 rfl rfl 2 (by decide) wu_X3 tyX3 tyX3_ok nX3 w_fieldLink_X3_30 (fun _ h9 => h9) rfl (by decide +kernel) rfl rfl (Nat.le_of_ble_eq_true rfl) dX3_take_87 rfl ?_
          exact hv_vret h hr hlk hQ dX3_take_90 (by simp [hf_take, c4, c11, c36, hlt])
    · exact hv_vret h hr hlk hQ dX3_take_14 (by simp [hf_take, c4, c11])
abbrev rX3_spread : Room := { frames := 2, cells := 0, slots := 0, locals := 45 }
set_option maxHeartbeats 1000000 in
set_option maxRecDepth 100000 in
theorem k_X3_spread (l : Launch) (D : va_G) (cI cC : ClassId) (g : Nat → Nat) (cols : Nat → Nat → Int32) (sol oth : Nat → Nat) (out : Nat) (num : Nat → Int32) (od dn tb : Int32) (X : HF) (m0 m1 m2 m3 m4 : Nat × va_E)  (hen : X.2.2 ≤ 1728) : hsN l yX3_spread wsX3_spread rX3_spread D vwCl (hsT cI cC) [.ref (g 5)] (hsW g cI cC cols sol oth out num od dn tb X.1 X.2.1 (nI X.2.2) m0 m1 m2 m3 m4) (fun w => w = (hsW g cI cC cols sol oth out num od dn tb ((hf_sp 1728 0 X).1) ((hf_sp 1728 0 X).2.1) (nI (hf_sp 1728 0 X).2.2) m0 m1 m2 m3 m4)) := by
  refine hsN.enter (cc := cX3_spread) (maxL := 6) (ret := none) (by decide) rfl (Nat.le_of_ble_eq_true rfl) ?_
  intro Pg En Ss Mi Ar Be Me Co AA QQ hQ h hr hlk
  refine hs_lv (lv' := [(0, .ref (g 5))]) rfl ?_
  refine hv_iconst h (0) dX3_spread_0 (by decide) ?_
  refine hv_istore_n h [(1, .int 0), (0, .ref (g 5))] dX3_spread_1 rfl (by decide) rfl ?_
  have L2 : ∀ d2 i : Nat, i + d2 = 1728 → ∀ (Y : HF), Y.2.2 ≤ 1728 → hf_sp d2 i Y = hf_sp 1728 0 X → hsV Pg l En rX3_spread Ss Mi Ar Be Me Co QQ 6 D vwCl AA Ss.heap 0 0 2 [(1, .int (nI i)), (0, .ref (g 5))] (hsW g cI cC cols sol oth out num od dn tb Y.1 Y.2.1 (nI Y.2.2) m0 m1 m2 m3 m4) [] := by
    intro d2
    induction d2 with
    | zero =>
      intro i kq2 Y hY gY
      obtain rfl : i = 1728 := by omega
      refine hv_iload_n h dX3_spread_2 0 rfl rfl ?_
      refine hv_aload_n h dX3_spread_3 1 rfl rfl ?_
      refine hv_get (C := RX3) (T := TX3) (N := 3) h 5 rfl rfl 1 (by decide) wu_X3 w_fieldLink_X3_15 (fun _ h9 => h9) rfl dX3_spread_4 ?_
      refine hv_alen h 7 0 (1728) rfl rfl rfl dX3_spread_7 ?_
      refine hv_icmp_ge h 117 dX3_spread_8 rfl (fun c8 => ?_) (fun hc => absurd (Int32.le_refl _) hc)
      exact hv_vret h hr hlk hQ dX3_spread_117 (by rw [← gY, hf_sp])
    | succ d2 ih2 =>
      intro i kq2 Y hY gY
      have hlt2 : i < 1728 := by omega
      refine hv_iload_n h dX3_spread_2 0 rfl rfl ?_
      refine hv_aload_n h dX3_spread_3 1 rfl rfl ?_
      refine hv_get (C := RX3) (T := TX3) (N := 3) h 5 rfl rfl 1 (by decide) wu_X3 w_fieldLink_X3_15 (fun _ h9 => h9) rfl dX3_spread_4 ?_
      refine hv_alen h 7 0 (1728) rfl rfl rfl dX3_spread_7 ?_
      refine hv_icmp_ge h 117 dX3_spread_8 rfl (fun hc => absurd hc (nI_ge hlt2 (by decide))) (fun c8 => ?_)
      refine hv_iload_n h dX3_spread_11 0 rfl rfl ?_
      refine hv_aload_n h dX3_spread_12 1 rfl rfl ?_
      refine hv_get (C := RX3) (T := TX3) (N := 3) h 5 rfl rfl 2 (by decide) wu_X3 w_fieldLink_X3_30 (fun _ h9 => h9) rfl dX3_spread_13 ?_
      refine hv_icmp_ge h 117 dX3_spread_16 rfl (fun c16 => ?_) (fun c16 => ?_)
      · exact hv_vret h hr hlk hQ dX3_spread_117 (by rw [← gY, hf_sp, if_neg (fun q => (nI_ge q (by omega)) c16)])
      · have hiY : i < Y.2.2 := Nat.lt_of_not_le (fun q => c16 (nI_le q (by omega)))
        refine hv_aload_n h dX3_spread_19 1 rfl rfl ?_
        refine hv_get (C := RX3) (T := TX3) (N := 3) h 5 rfl rfl 1 (by decide) wu_X3 w_fieldLink_X3_15 (fun _ h9 => h9) rfl dX3_spread_20 ?_
        refine hv_iload_n h dX3_spread_23 0 rfl rfl ?_
        refine hv_iald (v := Y.2.1 i) h 7 0 rfl rfl (vp_in_nI (by omega) (by decide)) (by rw [nI_clamp (by omega)]) dX3_spread_24 ?_
        refine hv_bipush h (12) dX3_spread_25 (by decide) ?_
        refine hv_ishr h dX3_spread_27 ?_
        refine hv_istore_n h [(2, .int ((Y.2.1 i) >>> ((12 : Int32) &&& 31))), (1, .int (nI i)), (0, .ref (g 5))] dX3_spread_28 rfl (by decide) rfl ?_
        refine hv_aload_n h dX3_spread_29 2 rfl rfl ?_
        refine hv_get (C := RX3) (T := TX3) (N := 3) h 5 rfl rfl 1 (by decide) wu_X3 w_fieldLink_X3_15 (fun _ h9 => h9) rfl dX3_spread_30 ?_
        refine hv_iload_n h dX3_spread_33 1 rfl rfl ?_
        refine hv_iald (v := Y.2.1 i) h 7 0 rfl rfl (vp_in_nI (by omega) (by decide)) (by rw [nI_clamp (by omega)]) dX3_spread_34 ?_
        refine hv_sipush h (4095) dX3_spread_35 (by decide) ?_
        refine hv_iand h dX3_spread_38 ?_
        refine hv_istore_n h [(3, .int ((Y.2.1 i) &&& 4095)), (2, .int ((Y.2.1 i) >>> ((12 : Int32) &&& 31))), (1, .int (nI i)), (0, .ref (g 5))] dX3_spread_39 rfl (by decide) rfl ?_
        refine hv_iload_n h dX3_spread_40 1 rfl rfl ?_
        refine hv_bipush h (12) dX3_spread_41 (by decide) ?_
        refine hv_idiv h dX3_spread_43 (by decide) ?_
        refine hv_istore h [(4, .int (((Y.2.1 i) >>> ((12 : Int32) &&& 31)) / 12)), (3, .int ((Y.2.1 i) &&& 4095)), (2, .int ((Y.2.1 i) >>> ((12 : Int32) &&& 31))), (1, .int (nI i)), (0, .ref (g 5))] dX3_spread_44 (by decide) rfl ?_
        refine hv_iload_n h dX3_spread_46 2 rfl rfl ?_
        refine hv_bipush h (12) dX3_spread_47 (by decide) ?_
        refine hv_irem h dX3_spread_49 (by decide) ?_
        refine hv_istore h [(5, .int (((Y.2.1 i) >>> ((12 : Int32) &&& 31)) - ((Y.2.1 i) >>> ((12 : Int32) &&& 31)) / 12 * 12)), (4, .int (((Y.2.1 i) >>> ((12 : Int32) &&& 31)) / 12)), (3, .int ((Y.2.1 i) &&& 4095)), (2, .int ((Y.2.1 i) >>> ((12 : Int32) &&& 31))), (1, .int (nI i)), (0, .ref (g 5))] dX3_spread_50 (by decide) rfl ?_
        refine hv_aload_n h dX3_spread_52 5 rfl rfl ?_
        refine hv_iload h dX3_spread_53 1 rfl ?_
        refine hv_iload h dX3_spread_55 0 rfl ?_
        refine hv_iload_n h dX3_spread_57 2 rfl rfl ?_
        refine hv_iconst h (1) dX3_spread_58 (by decide) ?_
        refine hv_ishl h dX3_spread_59 ?_
        refine hv_iload_n h dX3_spread_60 2 rfl rfl ?_
        refine hv_iconst h (1) dX3_spread_61 (by decide) ?_
        refine hv_ishr h dX3_spread_62 ?_
        refine hv_ior h dX3_spread_63 ?_
        refine hv_callw (ws' := (hsW g cI cC cols sol oth out num od dn tb ((hf_take (((Y.2.1 i) >>> ((12 : Int32) &&& 31)) / 12) (((Y.2.1 i) >>> ((12 : Int32) &&& 31)) - ((Y.2.1 i) >>> ((12 : Int32) &&& 31)) / 12 * 12) ((((Y.2.1 i) &&& 4095) <<< ((1 : Int32) &&& 31)) ||| (((Y.2.1 i) &&& 4095) >>> ((1 : Int32) &&& 31))) Y).1) ((hf_take (((Y.2.1 i) >>> ((12 : Int32) &&& 31)) / 12) (((Y.2.1 i) >>> ((12 : Int32) &&& 31)) - ((Y.2.1 i) >>> ((12 : Int32) &&& 31)) / 12 * 12) ((((Y.2.1 i) &&& 4095) <<< ((1 : Int32) &&& 31)) ||| (((Y.2.1 i) &&& 4095) >>> ((1 : Int32) &&& 31))) Y).2.1) (nI (hf_take (((Y.2.1 i) >>> ((12 : Int32) &&& 31)) / 12) (((Y.2.1 i) >>> ((12 : Int32) &&& 31)) - ((Y.2.1 i) >>> ((12 : Int32) &&& 31)) / 12 * 12) ((((Y.2.1 i) &&& 4095) <<< ((1 : Int32) &&& 31)) ||| (((Y.2.1 i) &&& 4095) >>> ((1 : Int32) &&& 31))) Y).2.2) m0 m1 m2 m3 m4)) h (hr_Vv (n := 3) (rest := []) h 5 rfl rfl (k_X3_take l D cI cC g cols sol oth out num od dn tb Y m0 m1 m2 m3 m4 (((Y.2.1 i) >>> ((12 : Int32) &&& 31)) / 12) (((Y.2.1 i) >>> ((12 : Int32) &&& 31)) - ((Y.2.1 i) >>> ((12 : Int32) &&& 31)) / 12 * 12) ((((Y.2.1 i) &&& 4095) <<< ((1 : Int32) &&& 31)) ||| (((Y.2.1 i) &&& 4095) >>> ((1 : Int32) &&& 31))) hY) w_methodLink_X3_34 w_instanceMethod_X3_take w_selects_X3_take w_initialized_X3 w_code_X3_take (by decide +kernel) rfl rfl rfl ⟨by decide, by decide⟩ rfl (Nat.le_of_ble_eq_true rfl) ⟨Nat.zero_le _, Nat.zero_le _⟩ dX3_spread_64) ?_
        refine hv_aload_n h dX3_spread_67 5 rfl rfl ?_
        refine hv_iload h dX3_spread_68 1 rfl ?_
        refine hv_iconst h (1) dX3_spread_70 (by decide) ?_
        refine hv_isub h dX3_spread_71 ?_
        refine hv_iload h dX3_spread_72 0 rfl ?_
        refine hv_iload_n h dX3_spread_74 2 rfl rfl ?_
        refine hv_callw (ws' := (hsW g cI cC cols sol oth out num od dn tb ((hf_take ((((Y.2.1 i) >>> ((12 : Int32) &&& 31)) / 12) - 1) (((Y.2.1 i) >>> ((12 : Int32) &&& 31)) - ((Y.2.1 i) >>> ((12 : Int32) &&& 31)) / 12 * 12) ((Y.2.1 i) &&& 4095) (hf_take (((Y.2.1 i) >>> ((12 : Int32) &&& 31)) / 12) (((Y.2.1 i) >>> ((12 : Int32) &&& 31)) - ((Y.2.1 i) >>> ((12 : Int32) &&& 31)) / 12 * 12) ((((Y.2.1 i) &&& 4095) <<< ((1 : Int32) &&& 31)) ||| (((Y.2.1 i) &&& 4095) >>> ((1 : Int32) &&& 31))) Y)).1) ((hf_take ((((Y.2.1 i) >>> ((12 : Int32) &&& 31)) / 12) - 1) (((Y.2.1 i) >>> ((12 : Int32) &&& 31)) - ((Y.2.1 i) >>> ((12 : Int32) &&& 31)) / 12 * 12) ((Y.2.1 i) &&& 4095) (hf_take (((Y.2.1 i) >>> ((12 : Int32) &&& 31)) / 12) (((Y.2.1 i) >>> ((12 : Int32) &&& 31)) - ((Y.2.1 i) >>> ((12 : Int32) &&& 31)) / 12 * 12) ((((Y.2.1 i) &&& 4095) <<< ((1 : Int32) &&& 31)) ||| (((Y.2.1 i) &&& 4095) >>> ((1 : Int32) &&& 31))) Y)).2.1) (nI (hf_take ((((Y.2.1 i) >>> ((12 : Int32) &&& 31)) / 12) - 1) (((Y.2.1 i) >>> ((12 : Int32) &&& 31)) - ((Y.2.1 i) >>> ((12 : Int32) &&& 31)) / 12 * 12) ((Y.2.1 i) &&& 4095) (hf_take (((Y.2.1 i) >>> ((12 : Int32) &&& 31)) / 12) (((Y.2.1 i) >>> ((12 : Int32) &&& 31)) - ((Y.2.1 i) >>> ((12 : Int32) &&& 31)) / 12 * 12) ((((Y.2.1 i) &&& 4095) <<< ((1 : Int32) &&& 31)) ||| (((Y.2.1 i) &&& 4095) >>> ((1 : Int32) &&& 31))) Y)).2.2) m0 m1 m2 m3 m4)) h (hr_Vv (n := 3) (rest := []) h 5 rfl rfl (k_X3_take l D cI cC g cols sol oth out num od dn tb (hf_take (((Y.2.1 i) >>> ((12 : Int32) &&& 31)) / 12) (((Y.2.1 i) >>> ((12 : Int32) &&& 31)) - ((Y.2.1 i) >>> ((12 : Int32) &&& 31)) / 12 * 12) ((((Y.2.1 i) &&& 4095) <<< ((1 : Int32) &&& 31)) ||| (((Y.2.1 i) &&& 4095) >>> ((1 : Int32) &&& 31))) Y) m0 m1 m2 m3 m4 ((((Y.2.1 i) >>> ((12 : Int32) &&& 31)) / 12) - 1) (((Y.2.1 i) >>> ((12 : Int32) &&& 31)) - ((Y.2.1 i) >>> ((12 : Int32) &&& 31)) / 12 * 12) ((Y.2.1 i) &&& 4095) (hf_take_le hY)) w_methodLink_X3_34 w_instanceMethod_X3_take w_selects_X3_take w_initialized_X3 w_code_X3_take (by decide +kernel) rfl rfl rfl ⟨by decide, by decide⟩ rfl (Nat.le_of_ble_eq_true rfl) ⟨Nat.zero_le _, Nat.zero_le _⟩ dX3_spread_75) ?_
        refine hv_aload_n h dX3_spread_78 5 rfl rfl ?_
        refine hv_iload h dX3_spread_79 1 rfl ?_
        refine hv_iconst h (1) dX3_spread_81 (by decide) ?_
        refine hv_iadd h dX3_spread_82 ?_
        refine hv_iload h dX3_spread_83 0 rfl ?_
        refine hv_iload_n h dX3_spread_85 2 rfl rfl ?_
        refine hv_callw (ws' := (hsW g cI cC cols sol oth out num od dn tb ((hf_take ((((Y.2.1 i) >>> ((12 : Int32) &&& 31)) / 12) + 1) (((Y.2.1 i) >>> ((12 : Int32) &&& 31)) - ((Y.2.1 i) >>> ((12 : Int32) &&& 31)) / 12 * 12) ((Y.2.1 i) &&& 4095) (hf_take ((((Y.2.1 i) >>> ((12 : Int32) &&& 31)) / 12) - 1) (((Y.2.1 i) >>> ((12 : Int32) &&& 31)) - ((Y.2.1 i) >>> ((12 : Int32) &&& 31)) / 12 * 12) ((Y.2.1 i) &&& 4095) (hf_take (((Y.2.1 i) >>> ((12 : Int32) &&& 31)) / 12) (((Y.2.1 i) >>> ((12 : Int32) &&& 31)) - ((Y.2.1 i) >>> ((12 : Int32) &&& 31)) / 12 * 12) ((((Y.2.1 i) &&& 4095) <<< ((1 : Int32) &&& 31)) ||| (((Y.2.1 i) &&& 4095) >>> ((1 : Int32) &&& 31))) Y))).1) ((hf_take ((((Y.2.1 i) >>> ((12 : Int32) &&& 31)) / 12) + 1) (((Y.2.1 i) >>> ((12 : Int32) &&& 31)) - ((Y.2.1 i) >>> ((12 : Int32) &&& 31)) / 12 * 12) ((Y.2.1 i) &&& 4095) (hf_take ((((Y.2.1 i) >>> ((12 : Int32) &&& 31)) / 12) - 1) (((Y.2.1 i) >>> ((12 : Int32) &&& 31)) - ((Y.2.1 i) >>> ((12 : Int32) &&& 31)) / 12 * 12) ((Y.2.1 i) &&& 4095) (hf_take (((Y.2.1 i) >>> ((12 : Int32) &&& 31)) / 12) (((Y.2.1 i) >>> ((12 : Int32) &&& 31)) - ((Y.2.1 i) >>> ((12 : Int32) &&& 31)) / 12 * 12) ((((Y.2.1 i) &&& 4095) <<< ((1 : Int32) &&& 31)) ||| (((Y.2.1 i) &&& 4095) >>> ((1 : Int32) &&& 31))) Y))).2.1) (nI (hf_take ((((Y.2.1 i) >>> ((12 : Int32) &&& 31)) / 12) + 1) (((Y.2.1 i) >>> ((12 : Int32) &&& 31)) - ((Y.2.1 i) >>> ((12 : Int32) &&& 31)) / 12 * 12) ((Y.2.1 i) &&& 4095) (hf_take ((((Y.2.1 i) >>> ((12 : Int32) &&& 31)) / 12) - 1) (((Y.2.1 i) >>> ((12 : Int32) &&& 31)) - ((Y.2.1 i) >>> ((12 : Int32) &&& 31)) / 12 * 12) ((Y.2.1 i) &&& 4095) (hf_take (((Y.2.1 i) >>> ((12 : Int32) &&& 31)) / 12) (((Y.2.1 i) >>> ((12 : Int32) &&& 31)) - ((Y.2.1 i) >>> ((12 : Int32) &&& 31)) / 12 * 12) ((((Y.2.1 i) &&& 4095) <<< ((1 : Int32) &&& 31)) ||| (((Y.2.1 i) &&& 4095) >>> ((1 : Int32) &&& 31))) Y))).2.2) m0 m1 m2 m3 m4)) h (hr_Vv (n := 3) (rest := []) h 5 rfl rfl (k_X3_take l D cI cC g cols sol oth out num od dn tb (hf_take ((((Y.2.1 i) >>> ((12 : Int32) &&& 31)) / 12) - 1) (((Y.2.1 i) >>> ((12 : Int32) &&& 31)) - ((Y.2.1 i) >>> ((12 : Int32) &&& 31)) / 12 * 12) ((Y.2.1 i) &&& 4095) (hf_take (((Y.2.1 i) >>> ((12 : Int32) &&& 31)) / 12) (((Y.2.1 i) >>> ((12 : Int32) &&& 31)) - ((Y.2.1 i) >>> ((12 : Int32) &&& 31)) / 12 * 12) ((((Y.2.1 i) &&& 4095) <<< ((1 : Int32) &&& 31)) ||| (((Y.2.1 i) &&& 4095) >>> ((1 : Int32) &&& 31))) Y)) m0 m1 m2 m3 m4 ((((Y.2.1 i) >>> ((12 : Int32) &&& 31)) / 12) + 1) (((Y.2.1 i) >>> ((12 : Int32) &&& 31)) - ((Y.2.1 i) >>> ((12 : Int32) &&& 31)) / 12 * 12) ((Y.2.1 i) &&& 4095) (hf_take_le (hf_take_le hY))) w_methodLink_X3_34 w_instanceMethod_X3_take w_selects_X3_take w_initialized_X3 w_code_X3_take (by decide +kernel) rfl rfl rfl ⟨by decide, by decide⟩ rfl (Nat.le_of_ble_eq_true rfl) ⟨Nat.zero_le _, Nat.zero_le _⟩ dX3_spread_86) ?_
        refine hv_aload_n h dX3_spread_89 5 rfl rfl ?_
        refine hv_iload h dX3_spread_90 1 rfl ?_
        refine hv_iload h dX3_spread_92 0 rfl ?_
        refine hv_iconst h (1) dX3_spread_94 (by decide) ?_
        refine hv_isub h dX3_spread_95 ?_
        refine hv_iload_n h dX3_spread_96 2 rfl rfl ?_
        refine hv_callw (ws' := (hsW g cI cC cols sol oth out num od dn tb ((hf_take (((Y.2.1 i) >>> ((12 : Int32) &&& 31)) / 12) ((((Y.2.1 i) >>> ((12 : Int32) &&& 31)) - ((Y.2.1 i) >>> ((12 : Int32) &&& 31)) / 12 * 12) - 1) ((Y.2.1 i) &&& 4095) (hf_take ((((Y.2.1 i) >>> ((12 : Int32) &&& 31)) / 12) + 1) (((Y.2.1 i) >>> ((12 : Int32) &&& 31)) - ((Y.2.1 i) >>> ((12 : Int32) &&& 31)) / 12 * 12) ((Y.2.1 i) &&& 4095) (hf_take ((((Y.2.1 i) >>> ((12 : Int32) &&& 31)) / 12) - 1) (((Y.2.1 i) >>> ((12 : Int32) &&& 31)) - ((Y.2.1 i) >>> ((12 : Int32) &&& 31)) / 12 * 12) ((Y.2.1 i) &&& 4095) (hf_take (((Y.2.1 i) >>> ((12 : Int32) &&& 31)) / 12) (((Y.2.1 i) >>> ((12 : Int32) &&& 31)) - ((Y.2.1 i) >>> ((12 : Int32) &&& 31)) / 12 * 12) ((((Y.2.1 i) &&& 4095) <<< ((1 : Int32) &&& 31)) ||| (((Y.2.1 i) &&& 4095) >>> ((1 : Int32) &&& 31))) Y)))).1) ((hf_take (((Y.2.1 i) >>> ((12 : Int32) &&& 31)) / 12) ((((Y.2.1 i) >>> ((12 : Int32) &&& 31)) - ((Y.2.1 i) >>> ((12 : Int32) &&& 31)) / 12 * 12) - 1) ((Y.2.1 i) &&& 4095) (hf_take ((((Y.2.1 i) >>> ((12 : Int32) &&& 31)) / 12) + 1) (((Y.2.1 i) >>> ((12 : Int32) &&& 31)) - ((Y.2.1 i) >>> ((12 : Int32) &&& 31)) / 12 * 12) ((Y.2.1 i) &&& 4095) (hf_take ((((Y.2.1 i) >>> ((12 : Int32) &&& 31)) / 12) - 1) (((Y.2.1 i) >>> ((12 : Int32) &&& 31)) - ((Y.2.1 i) >>> ((12 : Int32) &&& 31)) / 12 * 12) ((Y.2.1 i) &&& 4095) (hf_take (((Y.2.1 i) >>> ((12 : Int32) &&& 31)) / 12) (((Y.2.1 i) >>> ((12 : Int32) &&& 31)) - ((Y.2.1 i) >>> ((12 : Int32) &&& 31)) / 12 * 12) ((((Y.2.1 i) &&& 4095) <<< ((1 : Int32) &&& 31)) ||| (((Y.2.1 i) &&& 4095) >>> ((1 : Int32) &&& 31))) Y)))).2.1) (nI (hf_take (((Y.2.1 i) >>> ((12 : Int32) &&& 31)) / 12) ((((Y.2.1 i) >>> ((12 : Int32) &&& 31)) - ((Y.2.1 i) >>> ((12 : Int32) &&& 31)) / 12 * 12) - 1) ((Y.2.1 i) &&& 4095) (hf_take ((((Y.2.1 i) >>> ((12 : Int32) &&& 31)) / 12) + 1) (((Y.2.1 i) >>> ((12 : Int32) &&& 31)) - ((Y.2.1 i) >>> ((12 : Int32) &&& 31)) / 12 * 12) ((Y.2.1 i) &&& 4095) (hf_take ((((Y.2.1 i) >>> ((12 : Int32) &&& 31)) / 12) - 1) (((Y.2.1 i) >>> ((12 : Int32) &&& 31)) - ((Y.2.1 i) >>> ((12 : Int32) &&& 31)) / 12 * 12) ((Y.2.1 i) &&& 4095) (hf_take (((Y.2.1 i) >>> ((12 : Int32) &&& 31)) / 12) (((Y.2.1 i) >>> ((12 : Int32) &&& 31)) - ((Y.2.1 i) >>> ((12 : Int32) &&& 31)) / 12 * 12) ((((Y.2.1 i) &&& 4095) <<< ((1 : Int32) &&& 31)) ||| (((Y.2.1 i) &&& 4095) >>> ((1 : Int32) &&& 31))) Y)))).2.2) m0 m1 m2 m3 m4)) h (hr_Vv (n := 3) (rest := []) h 5 rfl rfl (k_X3_take l D cI cC g cols sol oth out num od dn tb (hf_take ((((Y.2.1 i) >>> ((12 : Int32) &&& 31)) / 12) + 1) (((Y.2.1 i) >>> ((12 : Int32) &&& 31)) - ((Y.2.1 i) >>> ((12 : Int32) &&& 31)) / 12 * 12) ((Y.2.1 i) &&& 4095) (hf_take ((((Y.2.1 i) >>> ((12 : Int32) &&& 31)) / 12) - 1) (((Y.2.1 i) >>> ((12 : Int32) &&& 31)) - ((Y.2.1 i) >>> ((12 : Int32) &&& 31)) / 12 * 12) ((Y.2.1 i) &&& 4095) (hf_take (((Y.2.1 i) >>> ((12 : Int32) &&& 31)) / 12) (((Y.2.1 i) >>> ((12 : Int32) &&& 31)) - ((Y.2.1 i) >>> ((12 : Int32) &&& 31)) / 12 * 12) ((((Y.2.1 i) &&& 4095) <<< ((1 : Int32) &&& 31)) ||| (((Y.2.1 i) &&& 4095) >>> ((1 : Int32) &&& 31))) Y))) m0 m1 m2 m3 m4 (((Y.2.1 i) >>> ((12 : Int32) &&& 31)) / 12) ((((Y.2.1 i) >>> ((12 : Int32) &&& 31)) - ((Y.2.1 i) >>> ((12 : Int32) &&& 31)) / 12 * 12) - 1) ((Y.2.1 i) &&& 4095) (hf_take_le (hf_take_le (hf_take_le hY)))) w_methodLink_X3_34 w_instanceMethod_X3_take w_selects_X3_take w_initialized_X3 w_code_X3_take (by decide +kernel) rfl rfl rfl ⟨by decide, by decide⟩ rfl (Nat.le_of_ble_eq_true rfl) ⟨Nat.zero_le _, Nat.zero_le _⟩ dX3_spread_97) ?_
        refine hv_aload_n h dX3_spread_100 5 rfl rfl ?_
        refine hv_iload h dX3_spread_101 1 rfl ?_
        refine hv_iload h dX3_spread_103 0 rfl ?_
        refine hv_iconst h (1) dX3_spread_105 (by decide) ?_
        refine hv_iadd h dX3_spread_106 ?_
        refine hv_iload_n h dX3_spread_107 2 rfl rfl ?_
        refine hv_callw (ws' := (hsW g cI cC cols sol oth out num od dn tb ((hf_take (((Y.2.1 i) >>> ((12 : Int32) &&& 31)) / 12) ((((Y.2.1 i) >>> ((12 : Int32) &&& 31)) - ((Y.2.1 i) >>> ((12 : Int32) &&& 31)) / 12 * 12) + 1) ((Y.2.1 i) &&& 4095) (hf_take (((Y.2.1 i) >>> ((12 : Int32) &&& 31)) / 12) ((((Y.2.1 i) >>> ((12 : Int32) &&& 31)) - ((Y.2.1 i) >>> ((12 : Int32) &&& 31)) / 12 * 12) - 1) ((Y.2.1 i) &&& 4095) (hf_take ((((Y.2.1 i) >>> ((12 : Int32) &&& 31)) / 12) + 1) (((Y.2.1 i) >>> ((12 : Int32) &&& 31)) - ((Y.2.1 i) >>> ((12 : Int32) &&& 31)) / 12 * 12) ((Y.2.1 i) &&& 4095) (hf_take ((((Y.2.1 i) >>> ((12 : Int32) &&& 31)) / 12) - 1) (((Y.2.1 i) >>> ((12 : Int32) &&& 31)) - ((Y.2.1 i) >>> ((12 : Int32) &&& 31)) / 12 * 12) ((Y.2.1 i) &&& 4095) (hf_take (((Y.2.1 i) >>> ((12 : Int32) &&& 31)) / 12) (((Y.2.1 i) >>> ((12 : Int32) &&& 31)) - ((Y.2.1 i) >>> ((12 : Int32) &&& 31)) / 12 * 12) ((((Y.2.1 i) &&& 4095) <<< ((1 : Int32) &&& 31)) ||| (((Y.2.1 i) &&& 4095) >>> ((1 : Int32) &&& 31))) Y))))).1) ((hf_take (((Y.2.1 i) >>> ((12 : Int32) &&& 31)) / 12) ((((Y.2.1 i) >>> ((12 : Int32) &&& 31)) - ((Y.2.1 i) >>> ((12 : Int32) &&& 31)) / 12 * 12) + 1) ((Y.2.1 i) &&& 4095) (hf_take (((Y.2.1 i) >>> ((12 : Int32) &&& 31)) / 12) ((((Y.2.1 i) >>> ((12 : Int32) &&& 31)) - ((Y.2.1 i) >>> ((12 : Int32) &&& 31)) / 12 * 12) - 1) ((Y.2.1 i) &&& 4095) (hf_take ((((Y.2.1 i) >>> ((12 : Int32) &&& 31)) / 12) + 1) (((Y.2.1 i) >>> ((12 : Int32) &&& 31)) - ((Y.2.1 i) >>> ((12 : Int32) &&& 31)) / 12 * 12) ((Y.2.1 i) &&& 4095) (hf_take ((((Y.2.1 i) >>> ((12 : Int32) &&& 31)) / 12) - 1) (((Y.2.1 i) >>> ((12 : Int32) &&& 31)) - ((Y.2.1 i) >>> ((12 : Int32) &&& 31)) / 12 * 12) ((Y.2.1 i) &&& 4095) (hf_take (((Y.2.1 i) >>> ((12 : Int32) &&& 31)) / 12) (((Y.2.1 i) >>> ((12 : Int32) &&& 31)) - ((Y.2.1 i) >>> ((12 : Int32) &&& 31)) / 12 * 12) ((((Y.2.1 i) &&& 4095) <<< ((1 : Int32) &&& 31)) ||| (((Y.2.1 i) &&& 4095) >>> ((1 : Int32) &&& 31))) Y))))).2.1) (nI (hf_take (((Y.2.1 i) >>> ((12 : Int32) &&& 31)) / 12) ((((Y.2.1 i) >>> ((12 : Int32) &&& 31)) - ((Y.2.1 i) >>> ((12 : Int32) &&& 31)) / 12 * 12) + 1) ((Y.2.1 i) &&& 4095) (hf_take (((Y.2.1 i) >>> ((12 : Int32) &&& 31)) / 12) ((((Y.2.1 i) >>> ((12 : Int32) &&& 31)) - ((Y.2.1 i) >>> ((12 : Int32) &&& 31)) / 12 * 12) - 1) ((Y.2.1 i) &&& 4095) (hf_take ((((Y.2.1 i) >>> ((12 : Int32) &&& 31)) / 12) + 1) (((Y.2.1 i) >>> ((12 : Int32) &&& 31)) - ((Y.2.1 i) >>> ((12 : Int32) &&& 31)) / 12 * 12) ((Y.2.1 i) &&& 4095) (hf_take ((((Y.2.1 i) >>> ((12 : Int32) &&& 31)) / 12) - 1) (((Y.2.1 i) >>> ((12 : Int32) &&& 31)) - ((Y.2.1 i) >>> ((12 : Int32) &&& 31)) / 12 * 12) ((Y.2.1 i) &&& 4095) (hf_take (((Y.2.1 i) >>> ((12 : Int32) &&& 31)) / 12) (((Y.2.1 i) >>> ((12 : Int32) &&& 31)) - ((Y.2.1 i) >>> ((12 : Int32) &&& 31)) / 12 * 12) ((((Y.2.1 i) &&& 4095) <<< ((1 : Int32) &&& 31)) ||| (((Y.2.1 i) &&& 4095) >>> ((1 : Int32) &&& 31))) Y))))).2.2) m0 m1 m2 m3 m4)) h (hr_Vv (n := 3) (rest := []) h 5 rfl rfl (k_X3_take l D cI cC g cols sol oth out num od dn tb (hf_take (((Y.2.1 i) >>> ((12 : Int32) &&& 31)) / 12) ((((Y.2.1 i) >>> ((12 : Int32) &&& 31)) - ((Y.2.1 i) >>> ((12 : Int32) &&& 31)) / 12 * 12) - 1) ((Y.2.1 i) &&& 4095) (hf_take ((((Y.2.1 i) >>> ((12 : Int32) &&& 31)) / 12) + 1) (((Y.2.1 i) >>> ((12 : Int32) &&& 31)) - ((Y.2.1 i) >>> ((12 : Int32) &&& 31)) / 12 * 12) ((Y.2.1 i) &&& 4095) (hf_take ((((Y.2.1 i) >>> ((12 : Int32) &&& 31)) / 12) - 1) (((Y.2.1 i) >>> ((12 : Int32) &&& 31)) - ((Y.2.1 i) >>> ((12 : Int32) &&& 31)) / 12 * 12) ((Y.2.1 i) &&& 4095) (hf_take (((Y.2.1 i) >>> ((12 : Int32) &&& 31)) / 12) (((Y.2.1 i) >>> ((12 : Int32) &&& 31)) - ((Y.2.1 i) >>> ((12 : Int32) &&& 31)) / 12 * 12) ((((Y.2.1 i) &&& 4095) <<< ((1 : Int32) &&& 31)) ||| (((Y.2.1 i) &&& 4095) >>> ((1 : Int32) &&& 31))) Y)))) m0 m1 m2 m3 m4 (((Y.2.1 i) >>> ((12 : Int32) &&& 31)) / 12) ((((Y.2.1 i) >>> ((12 : Int32) &&& 31)) - ((Y.2.1 i) >>> ((12 : Int32) &&& 31)) / 12 * 12) + 1) ((Y.2.1 i) &&& 4095) (hf_take_le (hf_take_le (hf_take_le (hf_take_le hY))))) w_methodLink_X3_34 w_instanceMethod_X3_take w_selects_X3_take w_initialized_X3 w_code_X3_take (by decide +kernel) rfl rfl rfl ⟨by decide, by decide⟩ rfl (Nat.le_of_ble_eq_true rfl) ⟨Nat.zero_le _, Nat.zero_le _⟩ dX3_spread_108) ?_
        refine hv_iinc h (nI (i + 1)) [(1, .int (nI (i + 1))), (5, .int (((Y.2.1 i) >>> ((12 : Int32) &&& 31)) - ((Y.2.1 i) >>> ((12 : Int32) &&& 31)) / 12 * 12)), (4, .int (((Y.2.1 i) >>> ((12 : Int32) &&& 31)) / 12)), (3, .int ((Y.2.1 i) &&& 4095)), (2, .int ((Y.2.1 i) >>> ((12 : Int32) &&& 31))), (0, .ref (g 5))] dX3_spread_111 4 rfl (hs_inc _) (by decide) rfl ?_
        refine hv_goto h 2 dX3_spread_114 rfl ?_
        refine hs_pick (lv' := [(1, .int (nI (i + 1))), (0, .ref (g 5))]) [0, 5] rfl ?_
        exact ih2 (i + 1) (by omega) (hf_one i Y) (hf_one_le hY) (by rw [← gY, hf_sp, if_pos hiY])
  exact L2 1728 0 (by omega) X hen rfl
abbrev rX3_countFrom : Room := { frames := 3, cells := 0, slots := 0, locals := 70 }
set_option maxHeartbeats 1000000 in
set_option maxRecDepth 100000 in
theorem k_X3_countFrom (l : Launch) (D : va_G) (cI cC : ClassId) (g : Nat → Nat) (cols : Nat → Nat → Int32) (sol oth : Nat → Nat) (out : Nat) (num : Nat → Int32) (od dn tb : Int32) (X : HF) (m0 m1 m2 m3 m4 : Nat × va_E) (x0 : Int32) (y0 : Int32)  : hsI l yX3_countFrom wsX3_countFrom rX3_countFrom D vwCl (hsT cI cC) [.ref (g 5), .int x0, .int y0] (hsW g cI cC cols sol oth out num od dn tb X.1 X.2.1 (nI X.2.2) m0 m1 m2 m3 m4) (fun r w => r = (hf_cf x0 y0 X).2 ∧ w = (hsW g cI cC cols sol oth out num od dn tb (((hf_cf x0 y0 X).1).1) (((hf_cf x0 y0 X).1).2.1) (nI ((hf_cf x0 y0 X).1).2.2) m0 m1 m2 m3 m4)) := by
  refine hsI.enter (cc := cX3_countFrom) (maxL := 5) (ret := (some .int)) (by decide) rfl (Nat.le_of_ble_eq_true rfl) ?_
  intro Pg En Ss Mi Ar Be Me Co AA QQ hQ h hr hlk
  refine hs_lv (lv' := [(0, .ref (g 5)), (1, .int x0), (2, .int y0)]) rfl ?_
  refine hv_iconst h (0) dX3_countFrom_0 (by decide) ?_
  refine hv_istore_n h [(3, .int 0), (0, .ref (g 5)), (1, .int x0), (2, .int y0)] dX3_countFrom_1 rfl (by decide) rfl ?_
  refine hv_iconst h (nI 0) dX3_countFrom_2 (by decide) ?_
  refine hv_istore h [(4, .int (nI 0)), (3, .int 0), (0, .ref (g 5)), (1, .int x0), (2, .int y0)] dX3_countFrom_3 (by decide) rfl ?_
  have L5 : ∀ d5 z : Nat, z + d5 = 12 → ∀ (Z : HF × Int32), Z = hx_it (fun z (Z : HF × Int32) => if 0 < (hf_take x0 y0 ((1 : Int32) <<< (nI z &&& 31)) (Z.1.1, Z.1.2.1, 0)).2.2 then (hf_sp 1728 0 (hf_take x0 y0 ((1 : Int32) <<< (nI z &&& 31)) (Z.1.1, Z.1.2.1, 0)), Z.2 + 1) else (hf_take x0 y0 ((1 : Int32) <<< (nI z &&& 31)) (Z.1.1, Z.1.2.1, 0), Z.2)) z (X, 0) → hsV Pg l En rX3_countFrom Ss Mi Ar Be Me Co QQ 5 D vwCl AA Ss.heap 0 0 5 [(4, .int (nI z)), (3, .int Z.2), (0, .ref (g 5)), (1, .int x0), (2, .int y0)] (hsW g cI cC cols sol oth out num od dn tb Z.1.1 Z.1.2.1 (nI Z.1.2.2) m0 m1 m2 m3 m4) [] := by
    intro d5
    induction d5 with
    | zero =>
      intro z kq5 Z e_Z
      obtain rfl : z = 12 := by omega
      refine hv_iload h dX3_countFrom_5 0 rfl ?_
      refine hv_bipush h (nI 12) dX3_countFrom_7 (by decide) ?_
      refine hv_icmp_ge h 47 dX3_countFrom_9 rfl (fun c9 => ?_) (fun hc => absurd (Int32.le_refl _) hc)
      refine hv_iload_n h dX3_countFrom_47 1 rfl rfl ?_
      exact hv_iret h hr hlk hQ dX3_countFrom_48 ⟨(by rw [e_Z]; rfl), (by rw [e_Z]; rfl)⟩
    | succ d5 ih5 =>
      intro z kq5 Z e_Z
      have hlt5 : z < 12 := by omega
      refine hv_iload h dX3_countFrom_5 0 rfl ?_
      refine hv_bipush h (nI 12) dX3_countFrom_7 (by decide) ?_
      refine hv_icmp_ge h 47 dX3_countFrom_9 rfl (fun hc => absurd hc (nI_ge hlt5 (by decide))) (fun c9 => ?_)
      refine hv_aload_n h dX3_countFrom_12 2 rfl rfl ?_
      refine hv_iconst h (0) dX3_countFrom_13 (by decide) ?_
      refine hv_put (ws' := (hsW g cI cC cols sol oth out num od dn tb Z.1.1 Z.1.2.1 0 m0 m1 m2 m3 m4)) (ty := .int) (C := RX3) (T := TX3) (N := 3) h 5 rfl rfl 2 (by decide) wu_X3 tyX3 tyX3_ok nX3 w_fieldLink_X3_30 (fun _ h9 => h9) rfl (by decide +kernel) rfl rfl (Nat.le_of_ble_eq_true rfl) dX3_countFrom_14 rfl ?_
      refine hv_aload_n h dX3_countFrom_17 2 rfl rfl ?_
      refine hv_iload_n h dX3_countFrom_18 3 rfl rfl ?_
      refine hv_iload_n h dX3_countFrom_19 4 rfl rfl ?_
      refine hv_iconst h (1) dX3_countFrom_20 (by decide) ?_
      refine hv_iload h dX3_countFrom_21 0 rfl ?_
      refine hv_ishl h dX3_countFrom_23 ?_
      refine hv_callw (ws' := (hsW g cI cC cols sol oth out num od dn tb ((hf_take x0 y0 ((1 : Int32) <<< ((nI z) &&& 31)) (Z.1.1, Z.1.2.1, 0)).1) ((hf_take x0 y0 ((1 : Int32) <<< ((nI z) &&& 31)) (Z.1.1, Z.1.2.1, 0)).2.1) (nI (hf_take x0 y0 ((1 : Int32) <<< ((nI z) &&& 31)) (Z.1.1, Z.1.2.1, 0)).2.2) m0 m1 m2 m3 m4)) h (hr_Vv (n := 3) (rest := []) h 5 rfl rfl (k_X3_take l D cI cC g cols sol oth out num od dn tb (Z.1.1, Z.1.2.1, 0) m0 m1 m2 m3 m4 x0 y0 ((1 : Int32) <<< ((nI z) &&& 31)) (Nat.zero_le _)) w_methodLink_X3_34 w_instanceMethod_X3_take w_selects_X3_take w_initialized_X3 w_code_X3_take (by decide +kernel) rfl rfl rfl ⟨by decide, by decide⟩ rfl (Nat.le_of_ble_eq_true rfl) ⟨Nat.zero_le _, Nat.zero_le _⟩ dX3_countFrom_24) ?_
      refine hv_aload_n h dX3_countFrom_27 2 rfl rfl ?_
      refine hv_get (C := RX3) (T := TX3) (N := 3) h 5 rfl rfl 2 (by decide) wu_X3 w_fieldLink_X3_30 (fun _ h9 => h9) rfl dX3_countFrom_28 ?_
      refine hv_if_le h 41 dX3_countFrom_31 rfl (fun c31 => ?_) (fun c31 => ?_)
      · have hp0n : ¬ 0 < (hf_take x0 y0 ((1 : Int32) <<< (nI z &&& 31)) (Z.1.1, Z.1.2.1, 0)).2.2 := fun q => (nI_nle q (Nat.lt_of_le_of_lt (hf_take_le (Nat.zero_le _)) (by decide))) c31
        refine hv_iinc h (nI (z + 1)) [(4, .int (nI (z + 1))), (3, .int Z.2), (0, .ref (g 5)), (1, .int x0), (2, .int y0)] dX3_countFrom_41 0 rfl (hs_inc _) (by decide) rfl ?_
        refine hv_goto h 5 dX3_countFrom_44 rfl ?_
        exact ih5 (z + 1) (by omega) (hf_take x0 y0 ((1 : Int32) <<< ((nI z) &&& 31)) (Z.1.1, Z.1.2.1, 0), Z.2) (by rw [hx_it_s, ← e_Z]; rw [if_neg hp0n])
      · have hp0 : 0 < (hf_take x0 y0 ((1 : Int32) <<< (nI z &&& 31)) (Z.1.1, Z.1.2.1, 0)).2.2 := Nat.pos_of_ne_zero (fun q => c31 (by rw [q]; decide))
        refine hv_iinc h (Z.2 + 1) [(3, .int (Z.2 + 1)), (4, .int (nI z)), (0, .ref (g 5)), (1, .int x0), (2, .int y0)] dX3_countFrom_34 1 rfl (hs_incx _) (by decide) rfl ?_
        refine hv_aload_n h dX3_countFrom_37 2 rfl rfl ?_
        refine hv_callw (ws' := (hsW g cI cC cols sol oth out num od dn tb ((hf_sp 1728 0 (hf_take x0 y0 ((1 : Int32) <<< ((nI z) &&& 31)) (Z.1.1, Z.1.2.1, 0))).1) ((hf_sp 1728 0 (hf_take x0 y0 ((1 : Int32) <<< ((nI z) &&& 31)) (Z.1.1, Z.1.2.1, 0))).2.1) (nI (hf_sp 1728 0 (hf_take x0 y0 ((1 : Int32) <<< ((nI z) &&& 31)) (Z.1.1, Z.1.2.1, 0))).2.2) m0 m1 m2 m3 m4)) h (hr_Vv (n := 0) (rest := []) h 5 rfl rfl (k_X3_spread l D cI cC g cols sol oth out num od dn tb (hf_take x0 y0 ((1 : Int32) <<< ((nI z) &&& 31)) (Z.1.1, Z.1.2.1, 0)) m0 m1 m2 m3 m4  (hf_take_le (Nat.zero_le _))) w_methodLink_X3_38 w_instanceMethod_X3_spread w_selects_X3_spread w_initialized_X3 w_code_X3_spread (by decide +kernel) rfl rfl rfl ⟨by decide, by decide⟩ rfl (Nat.le_of_ble_eq_true rfl) ⟨Nat.zero_le _, Nat.zero_le _⟩ dX3_countFrom_38) ?_
        refine hv_iinc h (nI (z + 1)) [(4, .int (nI (z + 1))), (3, .int (Z.2 + 1)), (0, .ref (g 5)), (1, .int x0), (2, .int y0)] dX3_countFrom_41 1 rfl (hs_inc _) (by decide) rfl ?_
        refine hv_goto h 5 dX3_countFrom_44 rfl ?_
        exact ih5 (z + 1) (by omega) (hf_sp 1728 0 (hf_take x0 y0 ((1 : Int32) <<< ((nI z) &&& 31)) (Z.1.1, Z.1.2.1, 0)), Z.2 + 1) (by rw [hx_it_s, ← e_Z]; rw [if_pos hp0])
  exact L5 12 0 (by omega) (X, 0) rfl
abbrev rX3_countLeft : Room := { frames := 4, cells := 0, slots := 0, locals := 94 }
set_option maxHeartbeats 1000000 in
set_option maxRecDepth 100000 in
theorem k_X3_countLeft (l : Launch) (D : va_G) (cI cC : ClassId) (g : Nat → Nat) (cols : Nat → Nat → Int32) (sol oth : Nat → Nat) (out : Nat) (num : Nat → Int32) (od dn tb : Int32) (X : HF) (m0 m1 m2 m3 m4 : Nat × va_E)   : hsI l yX3_countLeft wsX3_countLeft rX3_countLeft D vwCl (hsT cI cC) [.ref (g 5)] (hsW g cI cC cols sol oth out num od dn tb X.1 X.2.1 (nI X.2.2) m0 m1 m2 m3 m4) (fun r w => r = (hf_cl X).2 ∧ w = (hsW g cI cC cols sol oth out num od dn tb (((hf_cl X).1).1) (((hf_cl X).1).2.1) (nI ((hf_cl X).1).2.2) m0 m1 m2 m3 m4)) := by
  refine hsI.enter (cc := cX3_countLeft) (maxL := 4) (ret := (some .int)) (by decide) rfl (Nat.le_of_ble_eq_true rfl) ?_
  intro Pg En Ss Mi Ar Be Me Co AA QQ hQ h hr hlk
  refine hs_lv (lv' := [(0, .ref (g 5))]) rfl ?_
  refine hv_iconst h (0) dX3_countLeft_0 (by decide) ?_
  refine hv_istore_n h [(1, .int 0), (0, .ref (g 5))] dX3_countLeft_1 rfl (by decide) rfl ?_
  refine hv_iconst h (nI 0) dX3_countLeft_2 (by decide) ?_
  refine hv_istore_n h [(2, .int (nI 0)), (1, .int 0), (0, .ref (g 5))] dX3_countLeft_3 rfl (by decide) rfl ?_
  have L4 : ∀ d4 x : Nat, x + d4 = 12 → ∀ (Z1 : HF × Int32), Z1 = hx_it (fun x (Z : HF × Int32) => hx_it (fun y (Z : HF × Int32) => ((hf_cf (nI x) (nI y) Z.1).1, Z.2 + (hf_cf (nI x) (nI y) Z.1).2)) 12 Z) x (X, 0) → hsV Pg l En rX3_countLeft Ss Mi Ar Be Me Co QQ 4 D vwCl AA Ss.heap 0 0 4 [(2, .int (nI x)), (1, .int Z1.2), (0, .ref (g 5))] (hsW g cI cC cols sol oth out num od dn tb Z1.1.1 Z1.1.2.1 (nI Z1.1.2.2) m0 m1 m2 m3 m4) [] := by
    intro d4
    induction d4 with
    | zero =>
      intro x kq4 Z1 e_Z1
      obtain rfl : x = 12 := by omega
      refine hv_iload_n h dX3_countLeft_4 0 rfl rfl ?_
      refine hv_bipush h (nI 12) dX3_countLeft_5 (by decide) ?_
      refine hv_icmp_ge h 39 dX3_countLeft_7 rfl (fun c7 => ?_) (fun hc => absurd (Int32.le_refl _) hc)
      refine hv_iload_n h dX3_countLeft_39 1 rfl rfl ?_
      exact hv_iret h hr hlk hQ dX3_countLeft_40 ⟨(by rw [e_Z1]; rfl), (by rw [e_Z1]; rfl)⟩
    | succ d4 ih4 =>
      intro x kq4 Z1 e_Z1
      have hlt4 : x < 12 := by omega
      refine hv_iload_n h dX3_countLeft_4 0 rfl rfl ?_
      refine hv_bipush h (nI 12) dX3_countLeft_5 (by decide) ?_
      refine hv_icmp_ge h 39 dX3_countLeft_7 rfl (fun hc => absurd hc (nI_ge hlt4 (by decide))) (fun c7 => ?_)
      refine hv_iconst h (nI 0) dX3_countLeft_10 (by decide) ?_
      refine hv_istore_n h [(3, .int (nI 0)), (2, .int (nI x)), (1, .int Z1.2), (0, .ref (g 5))] dX3_countLeft_11 rfl (by decide) rfl ?_
      have L12 : ∀ d12 y : Nat, y + d12 = 12 → ∀ (Z2 : HF × Int32), Z2 = hx_it (fun y (Z : HF × Int32) => ((hf_cf (nI x) (nI y) Z.1).1, Z.2 + (hf_cf (nI x) (nI y) Z.1).2)) y Z1 → hsV Pg l En rX3_countLeft Ss Mi Ar Be Me Co QQ 4 D vwCl AA Ss.heap 0 0 12 [(3, .int (nI y)), (2, .int (nI x)), (1, .int Z2.2), (0, .ref (g 5))] (hsW g cI cC cols sol oth out num od dn tb Z2.1.1 Z2.1.2.1 (nI Z2.1.2.2) m0 m1 m2 m3 m4) [] := by
        intro d12
        induction d12 with
        | zero =>
          intro y kq12 Z2 e_Z2
          obtain rfl : y = 12 := by omega
          refine hv_iload_n h dX3_countLeft_12 0 rfl rfl ?_
          refine hv_bipush h (nI 12) dX3_countLeft_13 (by decide) ?_
          refine hv_icmp_ge h 33 dX3_countLeft_15 rfl (fun c15 => ?_) (fun hc => absurd (Int32.le_refl _) hc)
          refine hv_iinc h (nI (x + 1)) [(2, .int (nI (x + 1))), (3, .int (nI 12)), (1, .int Z2.2), (0, .ref (g 5))] dX3_countLeft_33 1 rfl (hs_inc _) (by decide) rfl ?_
          refine hv_goto h 4 dX3_countLeft_36 rfl ?_
          refine hs_pick (lv' := [(2, .int (nI (x + 1))), (1, .int Z2.2), (0, .ref (g 5))]) [0, 2, 3] rfl ?_
          exact ih4 (x + 1) (by omega) (Z2.1, Z2.2) (by rw [hx_it_s, ← e_Z1]; try first | assumption | with_reducible rfl | (simp [c7, c15]; done))
        | succ d12 ih12 =>
          intro y kq12 Z2 e_Z2
          have hlt12 : y < 12 := by omega
          refine hv_iload_n h dX3_countLeft_12 0 rfl rfl ?_
          refine hv_bipush h (nI 12) dX3_countLeft_13 (by decide) ?_
          refine hv_icmp_ge h 33 dX3_countLeft_15 rfl (fun hc => absurd hc (nI_ge hlt12 (by decide))) (fun c15 => ?_)
          refine hv_iload_n h dX3_countLeft_18 2 rfl rfl ?_
          refine hv_aload_n h dX3_countLeft_19 3 rfl rfl ?_
          refine hv_iload_n h dX3_countLeft_20 1 rfl rfl ?_
          refine hv_iload_n h dX3_countLeft_21 0 rfl rfl ?_
          refine hv_callp (ws' := (hsW g cI cC cols sol oth out num od dn tb (((hf_cf (nI x) (nI y) Z2.1).1).1) (((hf_cf (nI x) (nI y) Z2.1).1).2.1) (nI ((hf_cf (nI x) (nI y) Z2.1).1).2.2) m0 m1 m2 m3 m4)) (v := (hf_cf (nI x) (nI y) Z2.1).2) h (hr_Vi (n := 2) (rest := [.int Z2.2]) h 5 rfl rfl (k_X3_countFrom l D cI cC g cols sol oth out num od dn tb Z2.1 m0 m1 m2 m3 m4 (nI x) (nI y) ) w_methodLink_X3_41 w_instanceMethod_X3_countFrom w_selects_X3_countFrom w_initialized_X3 w_code_X3_countFrom (by decide +kernel) rfl rfl rfl ⟨by decide, by decide⟩ rfl (Nat.le_of_ble_eq_true rfl) ⟨Nat.zero_le _, Nat.zero_le _⟩ dX3_countLeft_22) ?_
          refine hv_iadd h dX3_countLeft_25 ?_
          refine hv_istore_n h [(1, .int (Z2.2 + ((hf_cf (nI x) (nI y) Z2.1).2))), (3, .int (nI y)), (2, .int (nI x)), (0, .ref (g 5))] dX3_countLeft_26 rfl (by decide) rfl ?_
          refine hv_iinc h (nI (y + 1)) [(3, .int (nI (y + 1))), (1, .int (Z2.2 + ((hf_cf (nI x) (nI y) Z2.1).2))), (2, .int (nI x)), (0, .ref (g 5))] dX3_countLeft_27 1 rfl (hs_inc _) (by decide) rfl ?_
          refine hv_goto h 12 dX3_countLeft_30 rfl ?_
          refine hs_pick (lv' := [(3, .int (nI (y + 1))), (2, .int (nI x)), (1, .int (Z2.2 + ((hf_cf (nI x) (nI y) Z2.1).2))), (0, .ref (g 5))]) [0, 2, 1, 3] rfl ?_
          exact ih12 (y + 1) (by omega) ((hf_cf (nI x) (nI y) Z2.1).1, Z2.2 + ((hf_cf (nI x) (nI y) Z2.1).2)) (by rw [hx_it_s, ← e_Z2]; try first | assumption | with_reducible rfl | (simp [c7, c15]; done))
      exact L12 12 0 (by omega) Z1 rfl
  exact L4 12 0 (by omega) (X, 0) rfl
abbrev rX3_dropFromBorder : Room := { frames := 3, cells := 0, slots := 0, locals := 70 }
set_option maxHeartbeats 1000000 in
set_option maxRecDepth 100000 in
theorem k_X3_dropFromBorder (l : Launch) (D : va_G) (cI cC : ClassId) (g : Nat → Nat) (cols : Nat → Nat → Int32) (sol oth : Nat → Nat) (out : Nat) (num : Nat → Int32) (od dn tb : Int32) (X : HF) (m0 m1 m2 m3 m4 : Nat × va_E)   : hsN l yX3_dropFromBorder wsX3_dropFromBorder rX3_dropFromBorder D vwCl (hsT cI cC) [.ref (g 5)] (hsW g cI cC cols sol oth out num od dn tb X.1 X.2.1 (nI X.2.2) m0 m1 m2 m3 m4) (fun w => w = (hsW g cI cC cols sol oth out num od dn tb ((hf_db X).1) ((hf_db X).2.1) (nI (hf_db X).2.2) m0 m1 m2 m3 m4)) := by
  refine hsN.enter (cc := cX3_dropFromBorder) (maxL := 4) (ret := none) (by decide) rfl (Nat.le_of_ble_eq_true rfl) ?_
  intro Pg En Ss Mi Ar Be Me Co AA QQ hQ h hr hlk
  refine hs_lv (lv' := [(0, .ref (g 5))]) rfl ?_
  refine hv_aload_n h dX3_dropFromBorder_0 0 rfl rfl ?_
  refine hv_iconst h (0) dX3_dropFromBorder_1 (by decide) ?_
  refine hv_put (ws' := (hsW g cI cC cols sol oth out num od dn tb X.1 X.2.1 0 m0 m1 m2 m3 m4)) (ty := .int) (C := RX3) (T := TX3) (N := 3) h 5 rfl rfl 2 (by decide) wu_X3 tyX3 tyX3_ok nX3 w_fieldLink_X3_30 (fun _ h9 => h9) rfl (by decide +kernel) rfl rfl (Nat.le_of_ble_eq_true rfl) dX3_dropFromBorder_2 rfl ?_
  refine hv_iconst h (nI 0) dX3_dropFromBorder_5 (by decide) ?_
  refine hv_istore_n h [(1, .int (nI 0)), (0, .ref (g 5))] dX3_dropFromBorder_6 rfl (by decide) rfl ?_
  have L7 : ∀ d7 x : Nat, x + d7 = 12 → ∀ (Y1 : HF), Y1 = hx_it (fun x F => hx_it (fun y F => hf_take (nI x) (nI y) (hf_bm x y) F) 12 F) x (X.1, X.2.1, 0) → hsV Pg l En rX3_dropFromBorder Ss Mi Ar Be Me Co QQ 4 D vwCl AA Ss.heap 0 0 7 [(1, .int (nI x)), (0, .ref (g 5))] (hsW g cI cC cols sol oth out num od dn tb Y1.1 Y1.2.1 (nI Y1.2.2) m0 m1 m2 m3 m4) [] := by
    intro d7
    induction d7 with
    | zero =>
      intro x kq7 Y1 e_Y1
      obtain rfl : x = 12 := by omega
      have hY1 : Y1.2.2 ≤ 1728 := by rw [e_Y1]; exact hx_it_inv (P := fun F : HF => F.2.2 ≤ 1728) (fun _ _ h1 => hx_it_inv (P := fun F : HF => F.2.2 ≤ 1728) (fun _ _ h2 => hf_take_le h2) h1) (Nat.zero_le _)
      refine hv_iload_n h dX3_dropFromBorder_7 0 rfl rfl ?_
      refine hv_bipush h (nI 12) dX3_dropFromBorder_8 (by decide) ?_
      refine hv_icmp_ge h 78 dX3_dropFromBorder_10 rfl (fun c10 => ?_) (fun hc => absurd (Int32.le_refl _) hc)
      refine hv_aload_n h dX3_dropFromBorder_78 1 rfl rfl ?_
      refine hv_callw (ws' := (hsW g cI cC cols sol oth out num od dn tb ((hf_sp 1728 0 Y1).1) ((hf_sp 1728 0 Y1).2.1) (nI (hf_sp 1728 0 Y1).2.2) m0 m1 m2 m3 m4)) h (hr_Vv (n := 0) (rest := []) h 5 rfl rfl (k_X3_spread l D cI cC g cols sol oth out num od dn tb Y1 m0 m1 m2 m3 m4  hY1) w_methodLink_X3_38 w_instanceMethod_X3_spread w_selects_X3_spread w_initialized_X3 w_code_X3_spread (by decide +kernel) rfl rfl rfl ⟨by decide, by decide⟩ rfl (Nat.le_of_ble_eq_true rfl) ⟨Nat.zero_le _, Nat.zero_le _⟩ dX3_dropFromBorder_79) ?_
      exact hv_vret h hr hlk hQ dX3_dropFromBorder_82 (by rw [e_Y1]; rfl)
    | succ d7 ih7 =>
      intro x kq7 Y1 e_Y1
      have hlt7 : x < 12 := by omega
      have hY1 : Y1.2.2 ≤ 1728 := by rw [e_Y1]; exact hx_it_inv (P := fun F : HF => F.2.2 ≤ 1728) (fun _ _ h1 => hx_it_inv (P := fun F : HF => F.2.2 ≤ 1728) (fun _ _ h2 => hf_take_le h2) h1) (Nat.zero_le _)
      refine hv_iload_n h dX3_dropFromBorder_7 0 rfl rfl ?_
      refine hv_bipush h (nI 12) dX3_dropFromBorder_8 (by decide) ?_
      refine hv_icmp_ge h 78 dX3_dropFromBorder_10 rfl (fun hc => absurd hc (nI_ge hlt7 (by decide))) (fun c10 => ?_)
      refine hv_iconst h (nI 0) dX3_dropFromBorder_13 (by decide) ?_
      refine hv_istore_n h [(2, .int (nI 0)), (1, .int (nI x)), (0, .ref (g 5))] dX3_dropFromBorder_14 rfl (by decide) rfl ?_
      have L15 : ∀ d15 y : Nat, y + d15 = 12 → ∀ (Y2 : HF), Y2 = hx_it (fun y F => hf_take (nI x) (nI y) (hf_bm x y) F) y Y1 → hsV Pg l En rX3_dropFromBorder Ss Mi Ar Be Me Co QQ 4 D vwCl AA Ss.heap 0 0 15 [(2, .int (nI y)), (1, .int (nI x)), (0, .ref (g 5))] (hsW g cI cC cols sol oth out num od dn tb Y2.1 Y2.2.1 (nI Y2.2.2) m0 m1 m2 m3 m4) [] := by
        intro d15
        induction d15 with
        | zero =>
          intro y kq15 Y2 e_Y2
          obtain rfl : y = 12 := by omega
          have hY2 : Y2.2.2 ≤ 1728 := by rw [e_Y2]; exact hx_it_inv (P := fun F : HF => F.2.2 ≤ 1728) (fun _ _ h2 => hf_take_le h2) hY1
          refine hv_iload_n h dX3_dropFromBorder_15 0 rfl rfl ?_
          refine hv_bipush h (nI 12) dX3_dropFromBorder_16 (by decide) ?_
          refine hv_icmp_ge h 72 dX3_dropFromBorder_18 rfl (fun c18 => ?_) (fun hc => absurd (Int32.le_refl _) hc)
          refine hv_iinc h (nI (x + 1)) [(1, .int (nI (x + 1))), (2, .int (nI 12)), (0, .ref (g 5))] dX3_dropFromBorder_72 1 rfl (hs_inc _) (by decide) rfl ?_
          refine hv_goto h 7 dX3_dropFromBorder_75 rfl ?_
          refine hs_pick (lv' := [(1, .int (nI (x + 1))), (0, .ref (g 5))]) [0, 2] rfl ?_
          exact ih7 (x + 1) (by omega) Y2 (by rw [hx_it_s, ← e_Y1]; exact e_Y2)
        | succ d15 ih15 =>
          intro y kq15 Y2 e_Y2
          have hlt15 : y < 12 := by omega
          have hY2 : Y2.2.2 ≤ 1728 := by rw [e_Y2]; exact hx_it_inv (P := fun F : HF => F.2.2 ≤ 1728) (fun _ _ h2 => hf_take_le h2) hY1
          refine hv_iload_n h dX3_dropFromBorder_15 0 rfl rfl ?_
          refine hv_bipush h (nI 12) dX3_dropFromBorder_16 (by decide) ?_
          refine hv_icmp_ge h 72 dX3_dropFromBorder_18 rfl (fun hc => absurd hc (nI_ge hlt15 (by decide))) (fun c18 => ?_)
          refine hv_iload_n h dX3_dropFromBorder_21 1 rfl rfl ?_
          refine hv_if_eq h 41 dX3_dropFromBorder_22 rfl (fun c22 => ?_) (fun c22 => ?_)
          · refine hv_iconst h (1) dX3_dropFromBorder_41 (by decide) ?_
            refine hv_goto h 46 dX3_dropFromBorder_42 rfl ?_
            refine hv_istore_n h [(3, .int 1), (2, .int (nI y)), (1, .int (nI x)), (0, .ref (g 5))] dX3_dropFromBorder_46 rfl (by decide) rfl ?_
            refine hv_aload_n h dX3_dropFromBorder_47 3 rfl rfl ?_
            refine hv_iload_n h dX3_dropFromBorder_48 2 rfl rfl ?_
            refine hv_iload_n h dX3_dropFromBorder_49 1 rfl rfl ?_
            refine hv_iload_n h dX3_dropFromBorder_50 0 rfl rfl ?_
            refine hv_if_eq h 60 dX3_dropFromBorder_51 rfl (fun hc => absurd hc (by decide)) (fun c51 => ?_)
            refine hv_sipush h (4095) dX3_dropFromBorder_54 (by decide) ?_
            refine hv_goto h 63 dX3_dropFromBorder_57 rfl ?_
            have hbm : hf_bm x y = 4095 := by simp [hf_bm, c22]
            refine hv_callw (ws' := (hsW g cI cC cols sol oth out num od dn tb ((hf_take (nI x) (nI y) 4095 Y2).1) ((hf_take (nI x) (nI y) 4095 Y2).2.1) (nI (hf_take (nI x) (nI y) 4095 Y2).2.2) m0 m1 m2 m3 m4)) h (hr_Vv (n := 3) (rest := []) h 5 rfl rfl (k_X3_take l D cI cC g cols sol oth out num od dn tb Y2 m0 m1 m2 m3 m4 (nI x) (nI y) 4095 hY2) w_methodLink_X3_34 w_instanceMethod_X3_take w_selects_X3_take w_initialized_X3 w_code_X3_take (by decide +kernel) rfl rfl rfl ⟨by decide, by decide⟩ rfl (Nat.le_of_ble_eq_true rfl) ⟨Nat.zero_le _, Nat.zero_le _⟩ dX3_dropFromBorder_63) ?_
            refine hv_iinc h (nI (y + 1)) [(2, .int (nI (y + 1))), (3, .int 1), (1, .int (nI x)), (0, .ref (g 5))] dX3_dropFromBorder_66 1 rfl (hs_inc _) (by decide) rfl ?_
            refine hv_goto h 15 dX3_dropFromBorder_69 rfl ?_
            refine hs_pick (lv' := [(2, .int (nI (y + 1))), (1, .int (nI x)), (0, .ref (g 5))]) [0, 2, 3] rfl ?_
            exact ih15 (y + 1) (by omega) (hf_take (nI x) (nI y) 4095 Y2) (by rw [hx_it_s, ← e_Y2, hbm])
          · refine hv_iload_n h dX3_dropFromBorder_25 1 rfl rfl ?_
            refine hv_bipush h (11) dX3_dropFromBorder_26 (by decide) ?_
            refine hv_icmp_eq h 41 dX3_dropFromBorder_28 rfl (fun c28 => ?_) (fun c28 => ?_)
            · refine hv_iconst h (1) dX3_dropFromBorder_41 (by decide) ?_
              refine hv_goto h 46 dX3_dropFromBorder_42 rfl ?_
              refine hv_istore_n h [(3, .int 1), (2, .int (nI y)), (1, .int (nI x)), (0, .ref (g 5))] dX3_dropFromBorder_46 rfl (by decide) rfl ?_
              refine hv_aload_n h dX3_dropFromBorder_47 3 rfl rfl ?_
              refine hv_iload_n h dX3_dropFromBorder_48 2 rfl rfl ?_
              refine hv_iload_n h dX3_dropFromBorder_49 1 rfl rfl ?_
              refine hv_iload_n h dX3_dropFromBorder_50 0 rfl rfl ?_
              refine hv_if_eq h 60 dX3_dropFromBorder_51 rfl (fun hc => absurd hc (by decide)) (fun c51 => ?_)
              refine hv_sipush h (4095) dX3_dropFromBorder_54 (by decide) ?_
              refine hv_goto h 63 dX3_dropFromBorder_57 rfl ?_
              have hbm : hf_bm x y = 4095 := by simp [hf_bm, c22, c28]
              refine hv_callw (ws' := (hsW g cI cC cols sol oth out num od dn tb ((hf_take (nI x) (nI y) 4095 Y2).1) ((hf_take (nI x) (nI y) 4095 Y2).2.1) (nI (hf_take (nI x) (nI y) 4095 Y2).2.2) m0 m1 m2 m3 m4)) h (hr_Vv (n := 3) (rest := []) h 5 rfl rfl (k_X3_take l D cI cC g cols sol oth out num od dn tb Y2 m0 m1 m2 m3 m4 (nI x) (nI y) 4095 hY2) w_methodLink_X3_34 w_instanceMethod_X3_take w_selects_X3_take w_initialized_X3 w_code_X3_take (by decide +kernel) rfl rfl rfl ⟨by decide, by decide⟩ rfl (Nat.le_of_ble_eq_true rfl) ⟨Nat.zero_le _, Nat.zero_le _⟩ dX3_dropFromBorder_63) ?_
              refine hv_iinc h (nI (y + 1)) [(2, .int (nI (y + 1))), (3, .int 1), (1, .int (nI x)), (0, .ref (g 5))] dX3_dropFromBorder_66 1 rfl (hs_inc _) (by decide) rfl ?_
              refine hv_goto h 15 dX3_dropFromBorder_69 rfl ?_
              refine hs_pick (lv' := [(2, .int (nI (y + 1))), (1, .int (nI x)), (0, .ref (g 5))]) [0, 2, 3] rfl ?_
              exact ih15 (y + 1) (by omega) (hf_take (nI x) (nI y) 4095 Y2) (by rw [hx_it_s, ← e_Y2, hbm])
            · refine hv_iload_n h dX3_dropFromBorder_31 0 rfl rfl ?_
              refine hv_if_eq h 41 dX3_dropFromBorder_32 rfl (fun c32 => ?_) (fun c32 => ?_)
              · refine hv_iconst h (1) dX3_dropFromBorder_41 (by decide) ?_
                refine hv_goto h 46 dX3_dropFromBorder_42 rfl ?_
                refine hv_istore_n h [(3, .int 1), (2, .int (nI y)), (1, .int (nI x)), (0, .ref (g 5))] dX3_dropFromBorder_46 rfl (by decide) rfl ?_
                refine hv_aload_n h dX3_dropFromBorder_47 3 rfl rfl ?_
                refine hv_iload_n h dX3_dropFromBorder_48 2 rfl rfl ?_
                refine hv_iload_n h dX3_dropFromBorder_49 1 rfl rfl ?_
                refine hv_iload_n h dX3_dropFromBorder_50 0 rfl rfl ?_
                refine hv_if_eq h 60 dX3_dropFromBorder_51 rfl (fun hc => absurd hc (by decide)) (fun c51 => ?_)
                refine hv_sipush h (4095) dX3_dropFromBorder_54 (by decide) ?_
                refine hv_goto h 63 dX3_dropFromBorder_57 rfl ?_
                have hbm : hf_bm x y = 4095 := by simp [hf_bm, c22, c28, c32]
                refine hv_callw (ws' := (hsW g cI cC cols sol oth out num od dn tb ((hf_take (nI x) (nI y) 4095 Y2).1) ((hf_take (nI x) (nI y) 4095 Y2).2.1) (nI (hf_take (nI x) (nI y) 4095 Y2).2.2) m0 m1 m2 m3 m4)) h (hr_Vv (n := 3) (rest := []) h 5 rfl rfl (k_X3_take l D cI cC g cols sol oth out num od dn tb Y2 m0 m1 m2 m3 m4 (nI x) (nI y) 4095 hY2) w_methodLink_X3_34 w_instanceMethod_X3_take w_selects_X3_take w_initialized_X3 w_code_X3_take (by decide +kernel) rfl rfl rfl ⟨by decide, by decide⟩ rfl (Nat.le_of_ble_eq_true rfl) ⟨Nat.zero_le _, Nat.zero_le _⟩ dX3_dropFromBorder_63) ?_
                refine hv_iinc h (nI (y + 1)) [(2, .int (nI (y + 1))), (3, .int 1), (1, .int (nI x)), (0, .ref (g 5))] dX3_dropFromBorder_66 1 rfl (hs_inc _) (by decide) rfl ?_
                refine hv_goto h 15 dX3_dropFromBorder_69 rfl ?_
                refine hs_pick (lv' := [(2, .int (nI (y + 1))), (1, .int (nI x)), (0, .ref (g 5))]) [0, 2, 3] rfl ?_
                exact ih15 (y + 1) (by omega) (hf_take (nI x) (nI y) 4095 Y2) (by rw [hx_it_s, ← e_Y2, hbm])
              · refine hv_iload_n h dX3_dropFromBorder_35 0 rfl rfl ?_
                refine hv_bipush h (11) dX3_dropFromBorder_36 (by decide) ?_
                refine hv_icmp_ne h 45 dX3_dropFromBorder_38 rfl (fun c38 => ?_) (fun c38 => ?_)
                · refine hv_iconst h (0) dX3_dropFromBorder_45 (by decide) ?_
                  refine hv_istore_n h [(3, .int 0), (2, .int (nI y)), (1, .int (nI x)), (0, .ref (g 5))] dX3_dropFromBorder_46 rfl (by decide) rfl ?_
                  refine hv_aload_n h dX3_dropFromBorder_47 3 rfl rfl ?_
                  refine hv_iload_n h dX3_dropFromBorder_48 2 rfl rfl ?_
                  refine hv_iload_n h dX3_dropFromBorder_49 1 rfl rfl ?_
                  refine hv_iload_n h dX3_dropFromBorder_50 0 rfl rfl ?_
                  refine hv_if_eq h 60 dX3_dropFromBorder_51 rfl (fun c51 => ?_) (fun hc => absurd (by decide) hc)
                  refine hv_sipush h (2049) dX3_dropFromBorder_60 (by decide) ?_
                  have hbm : hf_bm x y = 2049 := by simp [hf_bm, c22, c28, c32, c38]
                  refine hv_callw (ws' := (hsW g cI cC cols sol oth out num od dn tb ((hf_take (nI x) (nI y) 2049 Y2).1) ((hf_take (nI x) (nI y) 2049 Y2).2.1) (nI (hf_take (nI x) (nI y) 2049 Y2).2.2) m0 m1 m2 m3 m4)) h (hr_Vv (n := 3) (rest := []) h 5 rfl rfl (k_X3_take l D cI cC g cols sol oth out num od dn tb Y2 m0 m1 m2 m3 m4 (nI x) (nI y) 2049 hY2) w_methodLink_X3_34 w_instanceMethod_X3_take w_selects_X3_take w_initialized_X3 w_code_X3_take (by decide +kernel) rfl rfl rfl ⟨by decide, by decide⟩ rfl (Nat.le_of_ble_eq_true rfl) ⟨Nat.zero_le _, Nat.zero_le _⟩ dX3_dropFromBorder_63) ?_
                  refine hv_iinc h (nI (y + 1)) [(2, .int (nI (y + 1))), (3, .int 0), (1, .int (nI x)), (0, .ref (g 5))] dX3_dropFromBorder_66 1 rfl (hs_inc _) (by decide) rfl ?_
                  refine hv_goto h 15 dX3_dropFromBorder_69 rfl ?_
                  refine hs_pick (lv' := [(2, .int (nI (y + 1))), (1, .int (nI x)), (0, .ref (g 5))]) [0, 2, 3] rfl ?_
                  exact ih15 (y + 1) (by omega) (hf_take (nI x) (nI y) 2049 Y2) (by rw [hx_it_s, ← e_Y2, hbm])
                · refine hv_iconst h (1) dX3_dropFromBorder_41 (by decide) ?_
                  refine hv_goto h 46 dX3_dropFromBorder_42 rfl ?_
                  refine hv_istore_n h [(3, .int 1), (2, .int (nI y)), (1, .int (nI x)), (0, .ref (g 5))] dX3_dropFromBorder_46 rfl (by decide) rfl ?_
                  refine hv_aload_n h dX3_dropFromBorder_47 3 rfl rfl ?_
                  refine hv_iload_n h dX3_dropFromBorder_48 2 rfl rfl ?_
                  refine hv_iload_n h dX3_dropFromBorder_49 1 rfl rfl ?_
                  refine hv_iload_n h dX3_dropFromBorder_50 0 rfl rfl ?_
                  refine hv_if_eq h 60 dX3_dropFromBorder_51 rfl (fun hc => absurd hc (by decide)) (fun c51 => ?_)
                  refine hv_sipush h (4095) dX3_dropFromBorder_54 (by decide) ?_
                  refine hv_goto h 63 dX3_dropFromBorder_57 rfl ?_
                  have hbm : hf_bm x y = 4095 := by simp [hf_bm, c22, c28, c32, c38]
                  refine hv_callw (ws' := (hsW g cI cC cols sol oth out num od dn tb ((hf_take (nI x) (nI y) 4095 Y2).1) ((hf_take (nI x) (nI y) 4095 Y2).2.1) (nI (hf_take (nI x) (nI y) 4095 Y2).2.2) m0 m1 m2 m3 m4)) h (hr_Vv (n := 3) (rest := []) h 5 rfl rfl (k_X3_take l D cI cC g cols sol oth out num od dn tb Y2 m0 m1 m2 m3 m4 (nI x) (nI y) 4095 hY2) w_methodLink_X3_34 w_instanceMethod_X3_take w_selects_X3_take w_initialized_X3 w_code_X3_take (by decide +kernel) rfl rfl rfl ⟨by decide, by decide⟩ rfl (Nat.le_of_ble_eq_true rfl) ⟨Nat.zero_le _, Nat.zero_le _⟩ dX3_dropFromBorder_63) ?_
                  refine hv_iinc h (nI (y + 1)) [(2, .int (nI (y + 1))), (3, .int 1), (1, .int (nI x)), (0, .ref (g 5))] dX3_dropFromBorder_66 1 rfl (hs_inc _) (by decide) rfl ?_
                  refine hv_goto h 15 dX3_dropFromBorder_69 rfl ?_
                  refine hs_pick (lv' := [(2, .int (nI (y + 1))), (1, .int (nI x)), (0, .ref (g 5))]) [0, 2, 3] rfl ?_
                  exact ih15 (y + 1) (by omega) (hf_take (nI x) (nI y) 4095 Y2) (by rw [hx_it_s, ← e_Y2, hbm])
      exact L15 12 0 (by omega) Y1 rfl
  exact L7 12 0 (by omega) (X.1, X.2.1, 0) rfl
abbrev rX3_countPieces : Room := { frames := 5, cells := 0, slots := 0, locals := 117 }
set_option maxHeartbeats 1000000 in
set_option maxRecDepth 100000 in
theorem k_X3_countPieces (l : Launch) (D : va_G) (cI cC : ClassId) (g : Nat → Nat) (cols : Nat → Nat → Int32) (sol oth : Nat → Nat) (out : Nat) (num : Nat → Int32) (od dn tb : Int32) (X : HF) (m0 m1 m2 m3 m4 : Nat × va_E) (j : Nat)  (hj : j < 20) : hsI l yX3_countPieces wsX3_countPieces rX3_countPieces D vwCl (hsT cI cC) [.ref (g 5), .ref (g (13 + j))] (hsW g cI cC cols sol oth out num od dn tb X.1 X.2.1 (nI X.2.2) m0 m1 m2 m3 m4) (fun r w => r = (hf_pc (cols j) X).2 ∧ w = (hsW g cI cC cols sol oth out num od dn tb (((hf_pc (cols j) X).1).1) (((hf_pc (cols j) X).1).2.1) (nI ((hf_pc (cols j) X).1).2.2) m0 m1 m2 m3 m4)) := by
  refine hsI.enter (cc := cX3_countPieces) (maxL := 3) (ret := (some .int)) (by decide) rfl (Nat.le_of_ble_eq_true rfl) ?_
  intro Pg En Ss Mi Ar Be Me Co AA QQ hQ h hr hlk
  refine hs_lv (lv' := [(0, .ref (g 5)), (1, .ref (g (13 + j)))]) rfl ?_
  refine hv_iconst h (nI 0) dX3_countPieces_0 (by decide) ?_
  refine hv_istore_n h [(2, .int (nI 0)), (0, .ref (g 5)), (1, .ref (g (13 + j)))] dX3_countPieces_1 rfl (by decide) rfl ?_
  have L2 : ∀ d2 i : Nat, i + d2 = 144 → ∀ (F1 : Nat → Int32), F1 = hx_it (fun i F => upd F i (cols j i)) i X.1 → hsV Pg l En rX3_countPieces Ss Mi Ar Be Me Co QQ 3 D vwCl AA Ss.heap 0 0 2 [(2, .int (nI i)), (0, .ref (g 5)), (1, .ref (g (13 + j)))] (hsW g cI cC cols sol oth out num od dn tb F1 X.2.1 (nI X.2.2) m0 m1 m2 m3 m4) [] := by
    intro d2
    induction d2 with
    | zero =>
      intro i kq2 F1 e_F1
      obtain rfl : i = 144 := by omega
      refine hv_iload_n h dX3_countPieces_2 0 rfl rfl ?_
      refine hv_sipush h (nI 144) dX3_countPieces_3 (by decide) ?_
      refine hv_icmp_ge h 27 dX3_countPieces_6 rfl (fun c6 => ?_) (fun hc => absurd (Int32.le_refl _) hc)
      refine hv_aload_n h dX3_countPieces_27 1 rfl rfl ?_
      refine hv_callp (ws' := (hsW g cI cC cols sol oth out num od dn tb (((hf_cl (F1, X.2.1, X.2.2)).1).1) (((hf_cl (F1, X.2.1, X.2.2)).1).2.1) (nI ((hf_cl (F1, X.2.1, X.2.2)).1).2.2) m0 m1 m2 m3 m4)) (v := (hf_cl (F1, X.2.1, X.2.2)).2) h (hr_Vi (n := 0) (rest := []) h 5 rfl rfl (k_X3_countLeft l D cI cC g cols sol oth out num od dn tb (F1, X.2.1, X.2.2) m0 m1 m2 m3 m4  ) w_methodLink_X3_23 w_instanceMethod_X3_countLeft w_selects_X3_countLeft w_initialized_X3 w_code_X3_countLeft (by decide +kernel) rfl rfl rfl ⟨by decide, by decide⟩ rfl (Nat.le_of_ble_eq_true rfl) ⟨Nat.zero_le _, Nat.zero_le _⟩ dX3_countPieces_28) ?_
      exact hv_iret h hr hlk hQ dX3_countPieces_31 ⟨(by rw [e_F1]; rfl), (by rw [e_F1]; rfl)⟩
    | succ d2 ih2 =>
      intro i kq2 F1 e_F1
      have hlt2 : i < 144 := by omega
      refine hv_iload_n h dX3_countPieces_2 0 rfl rfl ?_
      refine hv_sipush h (nI 144) dX3_countPieces_3 (by decide) ?_
      refine hv_icmp_ge h 27 dX3_countPieces_6 rfl (fun hc => absurd hc (nI_ge hlt2 (by decide))) (fun c6 => ?_)
      refine hv_aload_n h dX3_countPieces_9 1 rfl rfl ?_
      refine hv_get (C := RX3) (T := TX3) (N := 3) h 5 rfl rfl 0 (by decide) wu_X3 w_fieldLink_X3_9 (fun _ h9 => h9) rfl dX3_countPieces_10 ?_
      refine hv_iload_n h dX3_countPieces_13 0 rfl rfl ?_
      refine hv_aload_n h dX3_countPieces_14 2 rfl rfl ?_
      refine hv_getN (C := RX1) (T := TX1) (N := 1) h (13 + j) (hsW_cell hj) rfl 0 (by decide) wu_X1 (List.mem_of_getElem? (i := 0) rfl) (fun _ h9 => h9) rfl dX3_countPieces_15 ?_
      refine hv_iload_n h dX3_countPieces_18 0 rfl rfl ?_
      refine hv_iald (v := (cols j) i) h (33 + j) 0 (hsW_arr hj) rfl (vp_in_nI (by omega) (by decide)) (by rw [nI_clamp (by omega)]) dX3_countPieces_19 ?_
      refine hv_iast (ws' := (hsW g cI cC cols sol oth out num od dn tb (upd F1 i ((cols j) i)) X.2.1 (nI X.2.2) m0 m1 m2 m3 m4)) h 6 0 rfl rfl (vp_in_nI (by omega) (by decide)) dX3_countPieces_20 (by rw [nI_clamp (by omega)]; rfl) ?_
      refine hv_iinc h (nI (i + 1)) [(2, .int (nI (i + 1))), (0, .ref (g 5)), (1, .ref (g (13 + j)))] dX3_countPieces_21 0 rfl (hs_inc _) (by decide) rfl ?_
      refine hv_goto h 2 dX3_countPieces_24 rfl ?_
      exact ih2 (i + 1) (by omega) _ (by rw [hx_it_s, ← e_F1]; try first | assumption | with_reducible rfl | (simp [c6]; done))
  exact L2 144 0 (by omega) _ rfl
abbrev rX3_countHollows : Room := { frames := 5, cells := 0, slots := 0, locals := 117 }
set_option maxHeartbeats 1000000 in
set_option maxRecDepth 100000 in
theorem k_X3_countHollows (l : Launch) (D : va_G) (cI cC : ClassId) (g : Nat → Nat) (cols : Nat → Nat → Int32) (sol oth : Nat → Nat) (out : Nat) (num : Nat → Int32) (od dn tb : Int32) (X : HF) (m0 m1 m2 m3 m4 : Nat × va_E) (j : Nat)  (hj : j < 20) : hsI l yX3_countHollows wsX3_countHollows rX3_countHollows D vwCl (hsT cI cC) [.ref (g 5), .ref (g (13 + j))] (hsW g cI cC cols sol oth out num od dn tb X.1 X.2.1 (nI X.2.2) m0 m1 m2 m3 m4) (fun r w => r = (hf_hl (cols j) X).2 ∧ w = (hsW g cI cC cols sol oth out num od dn tb (((hf_hl (cols j) X).1).1) (((hf_hl (cols j) X).1).2.1) (nI ((hf_hl (cols j) X).1).2.2) m0 m1 m2 m3 m4)) := by
  refine hsI.enter (cc := cX3_countHollows) (maxL := 3) (ret := (some .int)) (by decide) rfl (Nat.le_of_ble_eq_true rfl) ?_
  intro Pg En Ss Mi Ar Be Me Co AA QQ hQ h hr hlk
  refine hs_lv (lv' := [(0, .ref (g 5)), (1, .ref (g (13 + j)))]) rfl ?_
  refine hv_iconst h (nI 0) dX3_countHollows_0 (by decide) ?_
  refine hv_istore_n h [(2, .int (nI 0)), (0, .ref (g 5)), (1, .ref (g (13 + j)))] dX3_countHollows_1 rfl (by decide) rfl ?_
  have L2 : ∀ d2 i : Nat, i + d2 = 144 → ∀ (F1 : Nat → Int32), F1 = hx_it (fun i F => upd F i (4095 &&& (cols j i ^^^ (-1)))) i X.1 → hsV Pg l En rX3_countHollows Ss Mi Ar Be Me Co QQ 3 D vwCl AA Ss.heap 0 0 2 [(2, .int (nI i)), (0, .ref (g 5)), (1, .ref (g (13 + j)))] (hsW g cI cC cols sol oth out num od dn tb F1 X.2.1 (nI X.2.2) m0 m1 m2 m3 m4) [] := by
    intro d2
    induction d2 with
    | zero =>
      intro i kq2 F1 e_F1
      obtain rfl : i = 144 := by omega
      refine hv_iload_n h dX3_countHollows_2 0 rfl rfl ?_
      refine hv_sipush h (nI 144) dX3_countHollows_3 (by decide) ?_
      refine hv_icmp_ge h 33 dX3_countHollows_6 rfl (fun c6 => ?_) (fun hc => absurd (Int32.le_refl _) hc)
      refine hv_aload_n h dX3_countHollows_33 1 rfl rfl ?_
      refine hv_callw (ws' := (hsW g cI cC cols sol oth out num od dn tb ((hf_db (F1, X.2.1, X.2.2)).1) ((hf_db (F1, X.2.1, X.2.2)).2.1) (nI (hf_db (F1, X.2.1, X.2.2)).2.2) m0 m1 m2 m3 m4)) h (hr_Vv (n := 0) (rest := []) h 5 rfl rfl (k_X3_dropFromBorder l D cI cC g cols sol oth out num od dn tb (F1, X.2.1, X.2.2) m0 m1 m2 m3 m4  ) w_methodLink_X3_27 w_instanceMethod_X3_dropFromBorder w_selects_X3_dropFromBorder w_initialized_X3 w_code_X3_dropFromBorder (by decide +kernel) rfl rfl rfl ⟨by decide, by decide⟩ rfl (Nat.le_of_ble_eq_true rfl) ⟨Nat.zero_le _, Nat.zero_le _⟩ dX3_countHollows_34) ?_
      refine hv_aload_n h dX3_countHollows_37 1 rfl rfl ?_
      refine hv_callp (ws' := (hsW g cI cC cols sol oth out num od dn tb (((hf_cl (hf_db (F1, X.2.1, X.2.2))).1).1) (((hf_cl (hf_db (F1, X.2.1, X.2.2))).1).2.1) (nI ((hf_cl (hf_db (F1, X.2.1, X.2.2))).1).2.2) m0 m1 m2 m3 m4)) (v := (hf_cl (hf_db (F1, X.2.1, X.2.2))).2) h (hr_Vi (n := 0) (rest := []) h 5 rfl rfl (k_X3_countLeft l D cI cC g cols sol oth out num od dn tb (hf_db (F1, X.2.1, X.2.2)) m0 m1 m2 m3 m4  ) w_methodLink_X3_23 w_instanceMethod_X3_countLeft w_selects_X3_countLeft w_initialized_X3 w_code_X3_countLeft (by decide +kernel) rfl rfl rfl ⟨by decide, by decide⟩ rfl (Nat.le_of_ble_eq_true rfl) ⟨Nat.zero_le _, Nat.zero_le _⟩ dX3_countHollows_38) ?_
      exact hv_iret h hr hlk hQ dX3_countHollows_41 ⟨(by rw [e_F1]; rfl), (by rw [e_F1]; rfl)⟩
    | succ d2 ih2 =>
      intro i kq2 F1 e_F1
      have hlt2 : i < 144 := by omega
      refine hv_iload_n h dX3_countHollows_2 0 rfl rfl ?_
      refine hv_sipush h (nI 144) dX3_countHollows_3 (by decide) ?_
      refine hv_icmp_ge h 33 dX3_countHollows_6 rfl (fun hc => absurd hc (nI_ge hlt2 (by decide))) (fun c6 => ?_)
      refine hv_aload_n h dX3_countHollows_9 1 rfl rfl ?_
      refine hv_get (C := RX3) (T := TX3) (N := 3) h 5 rfl rfl 0 (by decide) wu_X3 w_fieldLink_X3_9 (fun _ h9 => h9) rfl dX3_countHollows_10 ?_
      refine hv_iload_n h dX3_countHollows_13 0 rfl rfl ?_
      refine hv_sipush h (4095) dX3_countHollows_14 (by decide) ?_
      refine hv_aload_n h dX3_countHollows_17 2 rfl rfl ?_
      refine hv_getN (C := RX1) (T := TX1) (N := 1) h (13 + j) (hsW_cell hj) rfl 0 (by decide) wu_X1 (List.mem_of_getElem? (i := 0) rfl) (fun _ h9 => h9) rfl dX3_countHollows_18 ?_
      refine hv_iload_n h dX3_countHollows_21 0 rfl rfl ?_
      refine hv_iald (v := (cols j) i) h (33 + j) 0 (hsW_arr hj) rfl (vp_in_nI (by omega) (by decide)) (by rw [nI_clamp (by omega)]) dX3_countHollows_22 ?_
      refine hv_iconst h ((-1)) dX3_countHollows_23 (by decide) ?_
      refine hv_ixor h dX3_countHollows_24 ?_
      refine hv_iand h dX3_countHollows_25 ?_
      refine hv_iast (ws' := (hsW g cI cC cols sol oth out num od dn tb (upd F1 i (4095 &&& (((cols j) i) ^^^ (-1)))) X.2.1 (nI X.2.2) m0 m1 m2 m3 m4)) h 6 0 rfl rfl (vp_in_nI (by omega) (by decide)) dX3_countHollows_26 (by rw [nI_clamp (by omega)]; rfl) ?_
      refine hv_iinc h (nI (i + 1)) [(2, .int (nI (i + 1))), (0, .ref (g 5)), (1, .ref (g (13 + j)))] dX3_countHollows_27 0 rfl (hs_inc _) (by decide) rfl ?_
      refine hv_goto h 2 dX3_countHollows_30 rfl ?_
      exact ih2 (i + 1) (by omega) _ (by rw [hx_it_s, ← e_F1]; try first | assumption | with_reducible rfl | (simp [c6]; done))
  exact L2 144 0 (by omega) _ rfl
