abbrev rX0_box : Room := { frames := 3, cells := 0, slots := 0, locals := 64 }
set_option maxHeartbeats 1000000 in
set_option maxRecDepth 100000 in
theorem k_X0_box (l : Launch) (D : va_G) (cI cC : ClassId) (g : Nat → Nat) (cols : Nat → Nat → Int32) (sol oth : Nat → Nat) (out : Nat) (num : Nat → Int32) (o d t : Nat) (lf tk : Nat → Int32) (en : Int32) (m0 m1 m2 m3 m4 : Nat × va_E) (s0 : Int32) (x0 : Int32) (y0 : Int32) (z0 : Int32) (w0 : Int32) (d0 : Int32) (h0 : Int32) (ho : o < 12) (hd : d ≤ 12) (hsol : ∀ i, i < 6 → sol i < 20) (hoth : ∀ i, i < 12 → oth i < 20) (hout : out < 20) (hne : ∀ i, i < 6 → sol i ≠ out) : hsI l yX0_box wsX0_box rX0_box D vwCl (hsT cI cC) [.ref (g 0), .int s0, .int x0, .int y0, .int z0, .int w0, .int d0, .int h0] (hsW g cI cC cols sol oth out num (nI o) (nI d) (nI t) lf tk en m0 m1 m2 m3 m4) (fun r w => ((hx_in s0 6) = false ∧ r = -1 ∧ w = (hsW g cI cC cols sol oth out num (nI o) (nI d) (nI t) lf tk en m0 m1 m2 m3 m4)) ∨ ((hx_in s0 6) = true ∧ (hx_str x0 w0 && (hx_str y0 d0 && hx_str z0 h0)) = false ∧ r = -2 ∧ w = (hsW g cI cC cols sol oth out num (nI o) (nI d) (nI t) lf tk en m0 m1 m2 m3 m4)) ∨ (∃ i0 : Nat, i0 < 6 ∧ s0 = nI i0 ∧ (hx_in s0 6) = true ∧ (hx_str x0 w0 && (hx_str y0 d0 && hx_str z0 h0)) = true ∧ r = hx_cnt (hx_fill (hx_bx x0 y0 z0 ((x0 + w0) - 1) ((y0 + d0) - 1) ((z0 + h0) - 1)) (cols out)) ∧ w = hsStep g cI cC cols sol oth out num o d lf tk en m0 m1 m2 m3 m4 i0 (hx_fill (hx_bx x0 y0 z0 ((x0 + w0) - 1) ((y0 + d0) - 1) ((z0 + h0) - 1)) (cols out)))) := by
  refine hsI.enter (cc := cX0_box) (maxL := 8) (ret := (some .int)) (by decide) rfl (Nat.le_of_ble_eq_true rfl) ?_
  intro Pg En Ss Mi Ar Be Me Co AA QQ hQ h hr hlk
  refine hs_lv (lv' := [(0, .ref (g 0)), (1, .int s0), (2, .int x0), (3, .int y0), (4, .int z0), (5, .int w0), (6, .int d0), (7, .int h0)]) rfl ?_
  refine hv_iload_n h dX0_box_0 1 rfl rfl ?_
  refine hv_callp (ws' := (hsW g cI cC cols sol oth out num (nI o) (nI d) (nI t) lf tk en m0 m1 m2 m3 m4)) (v := hx_b (hx_in s0 6)) h (hr_Si (n := 1) (rest := []) h (k_X0_isSolid l D cI cC (hsW g cI cC cols sol oth out num (nI o) (nI d) (nI t) lf tk en m0 m1 m2 m3 m4) s0) w_methodLink_X0_37 w_static_X0_isSolid w_initialized_X0 w_code_X0_isSolid (by decide +kernel) rfl rfl rfl ⟨by decide, by decide⟩ rfl (Nat.le_of_ble_eq_true rfl) ⟨Nat.zero_le _, Nat.zero_le _⟩ dX0_box_1) ?_
  refine hv_bif_ne h 9 dX0_box_4 rfl (fun c4 => ?_) (fun c4 => ?_)
  · refine hv_iload_n h dX0_box_9 2 rfl rfl ?_
    refine hv_iload h dX0_box_10 5 rfl ?_
    refine hv_callp (ws' := (hsW g cI cC cols sol oth out num (nI o) (nI d) (nI t) lf tk en m0 m1 m2 m3 m4)) (v := hx_b (hx_str x0 w0)) h (hr_Si (n := 2) (rest := []) h (k_X0_isStretch l D cI cC (hsW g cI cC cols sol oth out num (nI o) (nI d) (nI t) lf tk en m0 m1 m2 m3 m4) x0 w0) w_methodLink_X0_41 w_static_X0_isStretch w_initialized_X0 w_code_X0_isStretch (by decide +kernel) rfl rfl rfl ⟨by decide, by decide⟩ rfl (Nat.le_of_ble_eq_true rfl) ⟨Nat.zero_le _, Nat.zero_le _⟩ dX0_box_12) ?_
    refine hv_bif_eq h 37 dX0_box_15 rfl (fun c15 => ?_) (fun c15 => ?_)
    · refine hv_bipush h ((-2)) dX0_box_37 (by decide) ?_
      exact hv_iret h hr hlk hQ dX0_box_39 (Or.inr (Or.inl ⟨by simp [c4, c15], by simp [c4, c15], rfl, rfl⟩))
    · refine hv_iload_n h dX0_box_18 3 rfl rfl ?_
      refine hv_iload h dX0_box_19 6 rfl ?_
      refine hv_callp (ws' := (hsW g cI cC cols sol oth out num (nI o) (nI d) (nI t) lf tk en m0 m1 m2 m3 m4)) (v := hx_b (hx_str y0 d0)) h (hr_Si (n := 2) (rest := []) h (k_X0_isStretch l D cI cC (hsW g cI cC cols sol oth out num (nI o) (nI d) (nI t) lf tk en m0 m1 m2 m3 m4) y0 d0) w_methodLink_X0_41 w_static_X0_isStretch w_initialized_X0 w_code_X0_isStretch (by decide +kernel) rfl rfl rfl ⟨by decide, by decide⟩ rfl (Nat.le_of_ble_eq_true rfl) ⟨Nat.zero_le _, Nat.zero_le _⟩ dX0_box_21) ?_
      refine hv_bif_eq h 37 dX0_box_24 rfl (fun c24 => ?_) (fun c24 => ?_)
      · refine hv_bipush h ((-2)) dX0_box_37 (by decide) ?_
        exact hv_iret h hr hlk hQ dX0_box_39 (Or.inr (Or.inl ⟨by simp [c4, c15, c24], by simp [c4, c15, c24], rfl, rfl⟩))
      · refine hv_iload h dX0_box_27 4 rfl ?_
        refine hv_iload h dX0_box_29 7 rfl ?_
        refine hv_callp (ws' := (hsW g cI cC cols sol oth out num (nI o) (nI d) (nI t) lf tk en m0 m1 m2 m3 m4)) (v := hx_b (hx_str z0 h0)) h (hr_Si (n := 2) (rest := []) h (k_X0_isStretch l D cI cC (hsW g cI cC cols sol oth out num (nI o) (nI d) (nI t) lf tk en m0 m1 m2 m3 m4) z0 h0) w_methodLink_X0_41 w_static_X0_isStretch w_initialized_X0 w_code_X0_isStretch (by decide +kernel) rfl rfl rfl ⟨by decide, by decide⟩ rfl (Nat.le_of_ble_eq_true rfl) ⟨Nat.zero_le _, Nat.zero_le _⟩ dX0_box_31) ?_
        refine hv_bif_ne h 40 dX0_box_34 rfl (fun c34 => ?_) (fun c34 => ?_)
        · obtain ⟨i0, hi0, rfl⟩ := hx_in_nat (n := 6) (by decide) c4
          have hcli0 : (nI i0).toNatClampNeg = i0 := nI_clamp (by omega)
          refine hv_aload_n h dX0_box_40 0 rfl rfl ?_
          refine hv_get (C := RX0) (T := TX0) (N := 5) h 0 rfl rfl 4 (by decide) wu_X0 w_fieldLink_X0_34 (fun _ h9 => h9) rfl dX0_box_41 ?_
          refine hv_iload_n h dX0_box_44 2 rfl rfl ?_
          refine hv_iload_n h dX0_box_45 3 rfl rfl ?_
          refine hv_iload h dX0_box_46 4 rfl ?_
          refine hv_iload_n h dX0_box_48 2 rfl rfl ?_
          refine hv_iload h dX0_box_49 5 rfl ?_
          refine hv_iadd h dX0_box_51 ?_
          refine hv_iconst h (1) dX0_box_52 (by decide) ?_
          refine hv_isub h dX0_box_53 ?_
          refine hv_iload_n h dX0_box_54 3 rfl rfl ?_
          refine hv_iload h dX0_box_55 6 rfl ?_
          refine hv_iadd h dX0_box_57 ?_
          refine hv_iconst h (1) dX0_box_58 (by decide) ?_
          refine hv_isub h dX0_box_59 ?_
          refine hv_iload h dX0_box_60 4 rfl ?_
          refine hv_iload h dX0_box_62 7 rfl ?_
          refine hv_iadd h dX0_box_64 ?_
          refine hv_iconst h (1) dX0_box_65 (by decide) ?_
          refine hv_isub h dX0_box_66 ?_
          refine hv_callw (ws' := (((hsW g cI cC cols sol oth out num (nI o) (nI d) (nI t) lf tk en m0 m1 m2 m3 m4)).set (33 + out) (g (33 + out), .inl (cI, 144, .inl (hx_fill (hx_bx x0 y0 z0 ((x0 + w0) - 1) ((y0 + d0) - 1) ((z0 + h0) - 1)) (cols out)))))) h (hr_Vv (n := 6) (rest := []) h (13 + out) (hsW_cell hout) rfl (k_X1_becomeBox l D cI cC (hsW g cI cC cols sol oth out num (nI o) (nI d) (nI t) lf tk en m0 m1 m2 m3 m4) (13 + out) (33 + out) (g (13 + out)) (g (33 + out)) (cols out) (hsW_cell hout) (hsW_arr hout) (by omega)    x0 y0 z0 ((x0 + w0) - 1) ((y0 + d0) - 1) ((z0 + h0) - 1)) w_methodLink_X0_45 w_instanceMethod_X1_becomeBox w_selects_X1_becomeBox w_initialized_X1 w_code_X1_becomeBox (by decide +kernel) rfl rfl rfl ⟨by decide, by decide⟩ rfl (Nat.le_of_ble_eq_true rfl) ⟨Nat.zero_le _, Nat.zero_le _⟩ dX0_box_67) ?_
          refine hs_ws (ws' := (hsW g cI cC (va_up cols out (hx_fill (hx_bx x0 y0 z0 ((x0 + w0) - 1) ((y0 + d0) - 1) ((z0 + h0) - 1)) (cols out))) sol oth out num (nI o) (nI d) (nI t) lf tk en m0 m1 m2 m3 m4)) (hsW_set hout _) ?_
          refine hv_aload_n h dX0_box_70 0 rfl rfl ?_
          refine hv_iload_n h dX0_box_71 1 rfl rfl ?_
          refine hv_callp (ws' := (hsW g cI cC (va_up cols out (hx_fill (hx_bx x0 y0 z0 ((x0 + w0) - 1) ((y0 + d0) - 1) ((z0 + h0) - 1)) (cols out))) (va_up sol i0 out) (va_up oth (hq_p o d) (sol i0)) (oth (hq_p o d)) (upd num (hq_p o d) (nI i0)) (nI (hq_o o d)) (nI (hq_d d + 1)) 0 lf tk en m0 m1 m2 m3 m4)) (v := hx_cnt ((va_up cols out (hx_fill (hx_bx x0 y0 z0 ((x0 + w0) - 1) ((y0 + d0) - 1) ((z0 + h0) - 1)) (cols out))) out)) h (hr_Vi (n := 1) (rest := []) h 0 rfl rfl (k_X0_takeStep l D cI cC g (va_up cols out (hx_fill (hx_bx x0 y0 z0 ((x0 + w0) - 1) ((y0 + d0) - 1) ((z0 + h0) - 1)) (cols out))) sol oth out num o d t lf tk en m0 m1 m2 m3 m4 i0 hi0 ho hd hsol hoth hout) w_methodLink_X0_49 w_instanceMethod_X0_takeStep w_selects_X0_takeStep w_initialized_X0 w_code_X0_takeStep (by decide +kernel) rfl rfl rfl ⟨by decide, by decide⟩ rfl (Nat.le_of_ble_eq_true rfl) ⟨Nat.zero_le _, Nat.zero_le _⟩ dX0_box_72) ?_
          exact hv_iret h hr hlk hQ dX0_box_75 (Or.inr (Or.inr ⟨i0, hi0, rfl, by simp [c4, c15, c24, c34, hcli0], by simp [c4, c15, c24, c34, hcli0], by rw [va_up_self], rfl⟩))
        · refine hv_bipush h ((-2)) dX0_box_37 (by decide) ?_
          exact hv_iret h hr hlk hQ dX0_box_39 (Or.inr (Or.inl ⟨by simp [c4, c15, c24, c34], by simp [c4, c15, c24, c34], rfl, rfl⟩))
  · refine hv_iconst h ((-1)) dX0_box_7 (by decide) ?_
    exact hv_iret h hr hlk hQ dX0_box_8 (Or.inl ⟨by simp [c4], rfl, rfl⟩)
abbrev rX0_join : Room := { frames := 3, cells := 0, slots := 0, locals := 64 }
set_option maxHeartbeats 1000000 in
set_option maxRecDepth 100000 in
theorem k_X0_join (l : Launch) (D : va_G) (cI cC : ClassId) (g : Nat → Nat) (cols : Nat → Nat → Int32) (sol oth : Nat → Nat) (out : Nat) (num : Nat → Int32) (o d t : Nat) (lf tk : Nat → Int32) (en : Int32) (m0 m1 m2 m3 m4 : Nat × va_E) (s0 : Int32) (a0 : Int32) (b0 : Int32) (w0 : Int32) (ho : o < 12) (hd : d ≤ 12) (hsol : ∀ i, i < 6 → sol i < 20) (hoth : ∀ i, i < 12 → oth i < 20) (hout : out < 20) (hne : ∀ i, i < 6 → sol i ≠ out) : hsI l yX0_join wsX0_join rX0_join D vwCl (hsT cI cC) [.ref (g 0), .int s0, .int a0, .int b0, .int w0] (hsW g cI cC cols sol oth out num (nI o) (nI d) (nI t) lf tk en m0 m1 m2 m3 m4) (fun r w => ((hx_in s0 6 && (hx_in a0 6 && (hx_in b0 6 && (!(decide (w0 < 0)) && decide (w0 ≤ 3))))) = false ∧ r = -1 ∧ w = (hsW g cI cC cols sol oth out num (nI o) (nI d) (nI t) lf tk en m0 m1 m2 m3 m4)) ∨ (∃ i0 : Nat, i0 < 6 ∧ s0 = nI i0 ∧ (hx_in s0 6 && (hx_in a0 6 && (hx_in b0 6 && (!(decide (w0 < 0)) && decide (w0 ≤ 3))))) = true ∧ r = hx_cnt (hx_jf (cols (sol a0.toNatClampNeg)) (cols (sol b0.toNatClampNeg)) w0 (cols out)) ∧ w = hsStep g cI cC cols sol oth out num o d lf tk en m0 m1 m2 m3 m4 i0 (hx_jf (cols (sol a0.toNatClampNeg)) (cols (sol b0.toNatClampNeg)) w0 (cols out)))) := by
  refine hsI.enter (cc := cX0_join) (maxL := 5) (ret := (some .int)) (by decide) rfl (Nat.le_of_ble_eq_true rfl) ?_
  intro Pg En Ss Mi Ar Be Me Co AA QQ hQ h hr hlk
  refine hs_lv (lv' := [(0, .ref (g 0)), (1, .int s0), (2, .int a0), (3, .int b0), (4, .int w0)]) rfl ?_
  refine hv_iload_n h dX0_join_0 1 rfl rfl ?_
  refine hv_callp (ws' := (hsW g cI cC cols sol oth out num (nI o) (nI d) (nI t) lf tk en m0 m1 m2 m3 m4)) (v := hx_b (hx_in s0 6)) h (hr_Si (n := 1) (rest := []) h (k_X0_isSolid l D cI cC (hsW g cI cC cols sol oth out num (nI o) (nI d) (nI t) lf tk en m0 m1 m2 m3 m4) s0) w_methodLink_X0_37 w_static_X0_isSolid w_initialized_X0 w_code_X0_isSolid (by decide +kernel) rfl rfl rfl ⟨by decide, by decide⟩ rfl (Nat.le_of_ble_eq_true rfl) ⟨Nat.zero_le _, Nat.zero_le _⟩ dX0_join_1) ?_
  refine hv_bif_eq h 32 dX0_join_4 rfl (fun c4 => ?_) (fun c4 => ?_)
  · refine hv_iconst h ((-1)) dX0_join_32 (by decide) ?_
    exact hv_iret h hr hlk hQ dX0_join_33 (Or.inl ⟨by simp [c4], rfl, rfl⟩)
  · refine hv_iload_n h dX0_join_7 2 rfl rfl ?_
    refine hv_callp (ws' := (hsW g cI cC cols sol oth out num (nI o) (nI d) (nI t) lf tk en m0 m1 m2 m3 m4)) (v := hx_b (hx_in a0 6)) h (hr_Si (n := 1) (rest := []) h (k_X0_isSolid l D cI cC (hsW g cI cC cols sol oth out num (nI o) (nI d) (nI t) lf tk en m0 m1 m2 m3 m4) a0) w_methodLink_X0_37 w_static_X0_isSolid w_initialized_X0 w_code_X0_isSolid (by decide +kernel) rfl rfl rfl ⟨by decide, by decide⟩ rfl (Nat.le_of_ble_eq_true rfl) ⟨Nat.zero_le _, Nat.zero_le _⟩ dX0_join_8) ?_
    refine hv_bif_eq h 32 dX0_join_11 rfl (fun c11 => ?_) (fun c11 => ?_)
    · refine hv_iconst h ((-1)) dX0_join_32 (by decide) ?_
      exact hv_iret h hr hlk hQ dX0_join_33 (Or.inl ⟨by simp [c4, c11], rfl, rfl⟩)
    · refine hv_iload_n h dX0_join_14 3 rfl rfl ?_
      refine hv_callp (ws' := (hsW g cI cC cols sol oth out num (nI o) (nI d) (nI t) lf tk en m0 m1 m2 m3 m4)) (v := hx_b (hx_in b0 6)) h (hr_Si (n := 1) (rest := []) h (k_X0_isSolid l D cI cC (hsW g cI cC cols sol oth out num (nI o) (nI d) (nI t) lf tk en m0 m1 m2 m3 m4) b0) w_methodLink_X0_37 w_static_X0_isSolid w_initialized_X0 w_code_X0_isSolid (by decide +kernel) rfl rfl rfl ⟨by decide, by decide⟩ rfl (Nat.le_of_ble_eq_true rfl) ⟨Nat.zero_le _, Nat.zero_le _⟩ dX0_join_15) ?_
      refine hv_bif_eq h 32 dX0_join_18 rfl (fun c18 => ?_) (fun c18 => ?_)
      · refine hv_iconst h ((-1)) dX0_join_32 (by decide) ?_
        exact hv_iret h hr hlk hQ dX0_join_33 (Or.inl ⟨by simp [c4, c11, c18], rfl, rfl⟩)
      · refine hv_iload h dX0_join_21 4 rfl ?_
        refine hv_if_lt h 32 dX0_join_23 rfl (fun c23 => ?_) (fun c23 => ?_)
        · refine hv_iconst h ((-1)) dX0_join_32 (by decide) ?_
          exact hv_iret h hr hlk hQ dX0_join_33 (Or.inl ⟨by simp [c4, c11, c18, c23], rfl, rfl⟩)
        · refine hv_iload h dX0_join_26 4 rfl ?_
          refine hv_iconst h (3) dX0_join_28 (by decide) ?_
          refine hv_icmp_le h 34 dX0_join_29 rfl (fun c29 => ?_) (fun c29 => ?_)
          · obtain ⟨i0, hi0, rfl⟩ := hx_in_nat (n := 6) (by decide) c4
            have hcli0 : (nI i0).toNatClampNeg = i0 := nI_clamp (by omega)
            obtain ⟨i1, hi1, rfl⟩ := hx_in_nat (n := 6) (by decide) c11
            have hcli1 : (nI i1).toNatClampNeg = i1 := nI_clamp (by omega)
            obtain ⟨i2, hi2, rfl⟩ := hx_in_nat (n := 6) (by decide) c18
            have hcli2 : (nI i2).toNatClampNeg = i2 := nI_clamp (by omega)
            refine hv_aload_n h dX0_join_34 0 rfl rfl ?_
            refine hv_get (C := RX0) (T := TX0) (N := 5) h 0 rfl rfl 4 (by decide) wu_X0 w_fieldLink_X0_34 (fun _ h9 => h9) rfl dX0_join_35 ?_
            refine hv_aload_n h dX0_join_38 0 rfl rfl ?_
            refine hv_get (C := RX0) (T := TX0) (N := 5) h 0 rfl rfl 0 (by decide) wu_X0 w_fieldLink_X0_11 (fun _ h9 => h9) rfl dX0_join_39 ?_
            refine hv_iload_n h dX0_join_42 2 rfl rfl ?_
            refine hv_aald (v := .ref (g (13 + (sol i1)))) h 1 1 rfl rfl (vp_in_nI (by omega) (by decide)) (by rw [nI_clamp (by omega)]; rfl) dX0_join_43 ?_
            refine hv_aload_n h dX0_join_44 0 rfl rfl ?_
            refine hv_get (C := RX0) (T := TX0) (N := 5) h 0 rfl rfl 0 (by decide) wu_X0 w_fieldLink_X0_11 (fun _ h9 => h9) rfl dX0_join_45 ?_
            refine hv_iload_n h dX0_join_48 3 rfl rfl ?_
            refine hv_aald (v := .ref (g (13 + (sol i2)))) h 1 1 rfl rfl (vp_in_nI (by omega) (by decide)) (by rw [nI_clamp (by omega)]; rfl) dX0_join_49 ?_
            refine hv_iload h dX0_join_50 4 rfl ?_
            refine hv_callw (ws' := (((hsW g cI cC cols sol oth out num (nI o) (nI d) (nI t) lf tk en m0 m1 m2 m3 m4)).set (33 + out) (g (33 + out), .inl (cI, 144, .inl (hx_jf (cols (sol i1)) (cols (sol i2)) w0 (cols out)))))) h (hr_Vv (n := 3) (rest := []) h (13 + out) (hsW_cell hout) rfl (k_X1_becomeJoined l D cI cC (hsW g cI cC cols sol oth out num (nI o) (nI d) (nI t) lf tk en m0 m1 m2 m3 m4) (13 + out) (33 + out) (g (13 + out)) (g (33 + out)) (cols out) (hsW_cell hout) (hsW_arr hout) (by omega) (13 + (sol i1)) (33 + (sol i1)) (g (13 + (sol i1))) (g (33 + (sol i1))) (cols (sol i1)) (hsW_cell (hsol i1 hi1)) (hsW_arr (hsol i1 hi1)) (by have := hsol i1 hi1; omega) (by have := hne i1 hi1; omega) (13 + (sol i2)) (33 + (sol i2)) (g (13 + (sol i2))) (g (33 + (sol i2))) (cols (sol i2)) (hsW_cell (hsol i2 hi2)) (hsW_arr (hsol i2 hi2)) (by have := hsol i2 hi2; omega) (by have := hne i2 hi2; omega) w0) w_methodLink_X0_53 w_instanceMethod_X1_becomeJoined w_selects_X1_becomeJoined w_initialized_X1 w_code_X1_becomeJoined (by decide +kernel) rfl rfl rfl ⟨by decide, by decide⟩ rfl (Nat.le_of_ble_eq_true rfl) ⟨Nat.zero_le _, Nat.zero_le _⟩ dX0_join_52) ?_
            refine hs_ws (ws' := (hsW g cI cC (va_up cols out (hx_jf (cols (sol i1)) (cols (sol i2)) w0 (cols out))) sol oth out num (nI o) (nI d) (nI t) lf tk en m0 m1 m2 m3 m4)) (hsW_set hout _) ?_
            refine hv_aload_n h dX0_join_55 0 rfl rfl ?_
            refine hv_iload_n h dX0_join_56 1 rfl rfl ?_
            refine hv_callp (ws' := (hsW g cI cC (va_up cols out (hx_jf (cols (sol i1)) (cols (sol i2)) w0 (cols out))) (va_up sol i0 out) (va_up oth (hq_p o d) (sol i0)) (oth (hq_p o d)) (upd num (hq_p o d) (nI i0)) (nI (hq_o o d)) (nI (hq_d d + 1)) 0 lf tk en m0 m1 m2 m3 m4)) (v := hx_cnt ((va_up cols out (hx_jf (cols (sol i1)) (cols (sol i2)) w0 (cols out))) out)) h (hr_Vi (n := 1) (rest := []) h 0 rfl rfl (k_X0_takeStep l D cI cC g (va_up cols out (hx_jf (cols (sol i1)) (cols (sol i2)) w0 (cols out))) sol oth out num o d t lf tk en m0 m1 m2 m3 m4 i0 hi0 ho hd hsol hoth hout) w_methodLink_X0_49 w_instanceMethod_X0_takeStep w_selects_X0_takeStep w_initialized_X0 w_code_X0_takeStep (by decide +kernel) rfl rfl rfl ⟨by decide, by decide⟩ rfl (Nat.le_of_ble_eq_true rfl) ⟨Nat.zero_le _, Nat.zero_le _⟩ dX0_join_57) ?_
            exact hv_iret h hr hlk hQ dX0_join_60 (Or.inr (⟨i0, hi0, rfl, by simp [c4, c11, c18, c23, c29, hcli0, hcli1, hcli2], by rw [va_up_self, hcli1, hcli2], (by rw [hcli1, hcli2]; rfl)⟩))
          · refine hv_iconst h ((-1)) dX0_join_32 (by decide) ?_
            exact hv_iret h hr hlk hQ dX0_join_33 (Or.inl ⟨by simp [c4, c11, c18, c23, c29], rfl, rfl⟩)
abbrev rX0_turn : Room := { frames := 5, cells := 0, slots := 0, locals := 115 }
set_option maxHeartbeats 1000000 in
set_option maxRecDepth 100000 in
theorem k_X0_turn (l : Launch) (D : va_G) (cI cC : ClassId) (g : Nat → Nat) (cols : Nat → Nat → Int32) (sol oth : Nat → Nat) (out : Nat) (num : Nat → Int32) (o d t : Nat) (lf tk : Nat → Int32) (en : Int32) (m0 m1 m2 m3 m4 : Nat × va_E) (s0 : Int32) (ax : Int32) (ho : o < 12) (hd : d ≤ 12) (hsol : ∀ i, i < 6 → sol i < 20) (hoth : ∀ i, i < 12 → oth i < 20) (hout : out < 20) (hne : ∀ i, i < 6 → sol i ≠ out) : hsI l yX0_turn wsX0_turn rX0_turn D vwCl (hsT cI cC) [.ref (g 0), .int s0, .int ax] (hsW g cI cC cols sol oth out num (nI o) (nI d) (nI t) lf tk en m0 m1 m2 m3 m4) (fun r w => ((hx_in s0 6 && hx_in ax 3) = false ∧ r = -1 ∧ w = (hsW g cI cC cols sol oth out num (nI o) (nI d) (nI t) lf tk en m0 m1 m2 m3 m4)) ∨ (∃ i0 : Nat, i0 < 6 ∧ s0 = nI i0 ∧ (hx_in s0 6 && hx_in ax 3) = true ∧ r = hx_cnt (hx_fill (fun x y => hx_tc (cols (sol i0)) ax (nI x) (nI y)) (cols out)) ∧ w = hsStep g cI cC cols sol oth out num o d lf tk en m0 m1 m2 m3 m4 i0 (hx_fill (fun x y => hx_tc (cols (sol i0)) ax (nI x) (nI y)) (cols out)))) := by
  refine hsI.enter (cc := cX0_turn) (maxL := 3) (ret := (some .int)) (by decide) rfl (Nat.le_of_ble_eq_true rfl) ?_
  intro Pg En Ss Mi Ar Be Me Co AA QQ hQ h hr hlk
  refine hs_lv (lv' := [(0, .ref (g 0)), (1, .int s0), (2, .int ax)]) rfl ?_
  refine hv_iload_n h dX0_turn_0 1 rfl rfl ?_
  refine hv_callp (ws' := (hsW g cI cC cols sol oth out num (nI o) (nI d) (nI t) lf tk en m0 m1 m2 m3 m4)) (v := hx_b (hx_in s0 6)) h (hr_Si (n := 1) (rest := []) h (k_X0_isSolid l D cI cC (hsW g cI cC cols sol oth out num (nI o) (nI d) (nI t) lf tk en m0 m1 m2 m3 m4) s0) w_methodLink_X0_37 w_static_X0_isSolid w_initialized_X0 w_code_X0_isSolid (by decide +kernel) rfl rfl rfl ⟨by decide, by decide⟩ rfl (Nat.le_of_ble_eq_true rfl) ⟨Nat.zero_le _, Nat.zero_le _⟩ dX0_turn_1) ?_
  refine hv_bif_eq h 14 dX0_turn_4 rfl (fun c4 => ?_) (fun c4 => ?_)
  · refine hv_iconst h ((-1)) dX0_turn_14 (by decide) ?_
    exact hv_iret h hr hlk hQ dX0_turn_15 (Or.inl ⟨by simp [c4], rfl, rfl⟩)
  · refine hv_iload_n h dX0_turn_7 2 rfl rfl ?_
    refine hv_callp (ws' := (hsW g cI cC cols sol oth out num (nI o) (nI d) (nI t) lf tk en m0 m1 m2 m3 m4)) (v := hx_b (hx_in ax 3)) h (hr_Si (n := 1) (rest := []) h (k_X0_isAxis l D cI cC (hsW g cI cC cols sol oth out num (nI o) (nI d) (nI t) lf tk en m0 m1 m2 m3 m4) ax) w_methodLink_X0_57 w_static_X0_isAxis w_initialized_X0 w_code_X0_isAxis (by decide +kernel) rfl rfl rfl ⟨by decide, by decide⟩ rfl (Nat.le_of_ble_eq_true rfl) ⟨Nat.zero_le _, Nat.zero_le _⟩ dX0_turn_8) ?_
    refine hv_bif_ne h 16 dX0_turn_11 rfl (fun c11 => ?_) (fun c11 => ?_)
    · obtain ⟨i0, hi0, rfl⟩ := hx_in_nat (n := 6) (by decide) c4
      have hcli0 : (nI i0).toNatClampNeg = i0 := nI_clamp (by omega)
      refine hv_aload_n h dX0_turn_16 0 rfl rfl ?_
      refine hv_get (C := RX0) (T := TX0) (N := 5) h 0 rfl rfl 4 (by decide) wu_X0 w_fieldLink_X0_34 (fun _ h9 => h9) rfl dX0_turn_17 ?_
      refine hv_aload_n h dX0_turn_20 0 rfl rfl ?_
      refine hv_get (C := RX0) (T := TX0) (N := 5) h 0 rfl rfl 0 (by decide) wu_X0 w_fieldLink_X0_11 (fun _ h9 => h9) rfl dX0_turn_21 ?_
      refine hv_iload_n h dX0_turn_24 1 rfl rfl ?_
      refine hv_aald (v := .ref (g (13 + (sol i0)))) h 1 1 rfl rfl (vp_in_nI (by omega) (by decide)) (by rw [nI_clamp (by omega)]; rfl) dX0_turn_25 ?_
      refine hv_iload_n h dX0_turn_26 2 rfl rfl ?_
      refine hv_callw (ws' := (((hsW g cI cC cols sol oth out num (nI o) (nI d) (nI t) lf tk en m0 m1 m2 m3 m4)).set (33 + out) (g (33 + out), .inl (cI, 144, .inl (hx_fill (fun x y => hx_tc (cols (sol i0)) ax (nI x) (nI y)) (cols out)))))) h (hr_Vv (n := 2) (rest := []) h (13 + out) (hsW_cell hout) rfl (k_X1_becomeTurned l D cI cC (hsW g cI cC cols sol oth out num (nI o) (nI d) (nI t) lf tk en m0 m1 m2 m3 m4) (13 + out) (33 + out) (g (13 + out)) (g (33 + out)) (cols out) (hsW_cell hout) (hsW_arr hout) (by omega) (13 + (sol i0)) (33 + (sol i0)) (g (13 + (sol i0))) (g (33 + (sol i0))) (cols (sol i0)) (hsW_cell (hsol i0 hi0)) (hsW_arr (hsol i0 hi0)) (by have := hsol i0 hi0; omega) (by have := hne i0 hi0; omega) ax) w_methodLink_X0_60 w_instanceMethod_X1_becomeTurned w_selects_X1_becomeTurned w_initialized_X1 w_code_X1_becomeTurned (by decide +kernel) rfl rfl rfl ⟨by decide, by decide⟩ rfl (Nat.le_of_ble_eq_true rfl) ⟨Nat.zero_le _, Nat.zero_le _⟩ dX0_turn_27) ?_
      refine hs_ws (ws' := (hsW g cI cC (va_up cols out (hx_fill (fun x y => hx_tc (cols (sol i0)) ax (nI x) (nI y)) (cols out))) sol oth out num (nI o) (nI d) (nI t) lf tk en m0 m1 m2 m3 m4)) (hsW_set hout _) ?_
      refine hv_aload_n h dX0_turn_30 0 rfl rfl ?_
      refine hv_iload_n h dX0_turn_31 1 rfl rfl ?_
      refine hv_callp (ws' := (hsW g cI cC (va_up cols out (hx_fill (fun x y => hx_tc (cols (sol i0)) ax (nI x) (nI y)) (cols out))) (va_up sol i0 out) (va_up oth (hq_p o d) (sol i0)) (oth (hq_p o d)) (upd num (hq_p o d) (nI i0)) (nI (hq_o o d)) (nI (hq_d d + 1)) 0 lf tk en m0 m1 m2 m3 m4)) (v := hx_cnt ((va_up cols out (hx_fill (fun x y => hx_tc (cols (sol i0)) ax (nI x) (nI y)) (cols out))) out)) h (hr_Vi (n := 1) (rest := []) h 0 rfl rfl (k_X0_takeStep l D cI cC g (va_up cols out (hx_fill (fun x y => hx_tc (cols (sol i0)) ax (nI x) (nI y)) (cols out))) sol oth out num o d t lf tk en m0 m1 m2 m3 m4 i0 hi0 ho hd hsol hoth hout) w_methodLink_X0_49 w_instanceMethod_X0_takeStep w_selects_X0_takeStep w_initialized_X0 w_code_X0_takeStep (by decide +kernel) rfl rfl rfl ⟨by decide, by decide⟩ rfl (Nat.le_of_ble_eq_true rfl) ⟨Nat.zero_le _, Nat.zero_le _⟩ dX0_turn_32) ?_
      exact hv_iret h hr hlk hQ dX0_turn_35 (Or.inr (⟨i0, hi0, rfl, by simp [c4, c11, hcli0], by rw [va_up_self], rfl⟩))
    · refine hv_iconst h ((-1)) dX0_turn_14 (by decide) ?_
      exact hv_iret h hr hlk hQ dX0_turn_15 (Or.inl ⟨by simp [c4, c11], rfl, rfl⟩)
abbrev rX0_mirror : Room := { frames := 5, cells := 0, slots := 0, locals := 107 }
set_option maxHeartbeats 1000000 in
set_option maxRecDepth 100000 in
theorem k_X0_mirror (l : Launch) (D : va_G) (cI cC : ClassId) (g : Nat → Nat) (cols : Nat → Nat → Int32) (sol oth : Nat → Nat) (out : Nat) (num : Nat → Int32) (o d t : Nat) (lf tk : Nat → Int32) (en : Int32) (m0 m1 m2 m3 m4 : Nat × va_E) (s0 : Int32) (ax : Int32) (ho : o < 12) (hd : d ≤ 12) (hsol : ∀ i, i < 6 → sol i < 20) (hoth : ∀ i, i < 12 → oth i < 20) (hout : out < 20) (hne : ∀ i, i < 6 → sol i ≠ out) : hsI l yX0_mirror wsX0_mirror rX0_mirror D vwCl (hsT cI cC) [.ref (g 0), .int s0, .int ax] (hsW g cI cC cols sol oth out num (nI o) (nI d) (nI t) lf tk en m0 m1 m2 m3 m4) (fun r w => ((hx_in s0 6 && hx_in ax 3) = false ∧ r = -1 ∧ w = (hsW g cI cC cols sol oth out num (nI o) (nI d) (nI t) lf tk en m0 m1 m2 m3 m4)) ∨ (∃ i0 : Nat, i0 < 6 ∧ s0 = nI i0 ∧ (hx_in s0 6 && hx_in ax 3) = true ∧ r = hx_cnt (hx_fill (fun x y => hx_mc (cols (sol i0)) ax (nI x) (nI y)) (cols out)) ∧ w = hsStep g cI cC cols sol oth out num o d lf tk en m0 m1 m2 m3 m4 i0 (hx_fill (fun x y => hx_mc (cols (sol i0)) ax (nI x) (nI y)) (cols out)))) := by
  refine hsI.enter (cc := cX0_mirror) (maxL := 3) (ret := (some .int)) (by decide) rfl (Nat.le_of_ble_eq_true rfl) ?_
  intro Pg En Ss Mi Ar Be Me Co AA QQ hQ h hr hlk
  refine hs_lv (lv' := [(0, .ref (g 0)), (1, .int s0), (2, .int ax)]) rfl ?_
  refine hv_iload_n h dX0_mirror_0 1 rfl rfl ?_
  refine hv_callp (ws' := (hsW g cI cC cols sol oth out num (nI o) (nI d) (nI t) lf tk en m0 m1 m2 m3 m4)) (v := hx_b (hx_in s0 6)) h (hr_Si (n := 1) (rest := []) h (k_X0_isSolid l D cI cC (hsW g cI cC cols sol oth out num (nI o) (nI d) (nI t) lf tk en m0 m1 m2 m3 m4) s0) w_methodLink_X0_37 w_static_X0_isSolid w_initialized_X0 w_code_X0_isSolid (by decide +kernel) rfl rfl rfl ⟨by decide, by decide⟩ rfl (Nat.le_of_ble_eq_true rfl) ⟨Nat.zero_le _, Nat.zero_le _⟩ dX0_mirror_1) ?_
  refine hv_bif_eq h 14 dX0_mirror_4 rfl (fun c4 => ?_) (fun c4 => ?_)
  · refine hv_iconst h ((-1)) dX0_mirror_14 (by decide) ?_
    exact hv_iret h hr hlk hQ dX0_mirror_15 (Or.inl ⟨by simp [c4], rfl, rfl⟩)
  · refine hv_iload_n h dX0_mirror_7 2 rfl rfl ?_
    refine hv_callp (ws' := (hsW g cI cC cols sol oth out num (nI o) (nI d) (nI t) lf tk en m0 m1 m2 m3 m4)) (v := hx_b (hx_in ax 3)) h (hr_Si (n := 1) (rest := []) h (k_X0_isAxis l D cI cC (hsW g cI cC cols sol oth out num (nI o) (nI d) (nI t) lf tk en m0 m1 m2 m3 m4) ax) w_methodLink_X0_57 w_static_X0_isAxis w_initialized_X0 w_code_X0_isAxis (by decide +kernel) rfl rfl rfl ⟨by decide, by decide⟩ rfl (Nat.le_of_ble_eq_true rfl) ⟨Nat.zero_le _, Nat.zero_le _⟩ dX0_mirror_8) ?_
    refine hv_bif_ne h 16 dX0_mirror_11 rfl (fun c11 => ?_) (fun c11 => ?_)
    · obtain ⟨i0, hi0, rfl⟩ := hx_in_nat (n := 6) (by decide) c4
      have hcli0 : (nI i0).toNatClampNeg = i0 := nI_clamp (by omega)
      refine hv_aload_n h dX0_mirror_16 0 rfl rfl ?_
      refine hv_get (C := RX0) (T := TX0) (N := 5) h 0 rfl rfl 4 (by decide) wu_X0 w_fieldLink_X0_34 (fun _ h9 => h9) rfl dX0_mirror_17 ?_
      refine hv_aload_n h dX0_mirror_20 0 rfl rfl ?_
      refine hv_get (C := RX0) (T := TX0) (N := 5) h 0 rfl rfl 0 (by decide) wu_X0 w_fieldLink_X0_11 (fun _ h9 => h9) rfl dX0_mirror_21 ?_
      refine hv_iload_n h dX0_mirror_24 1 rfl rfl ?_
      refine hv_aald (v := .ref (g (13 + (sol i0)))) h 1 1 rfl rfl (vp_in_nI (by omega) (by decide)) (by rw [nI_clamp (by omega)]; rfl) dX0_mirror_25 ?_
      refine hv_iload_n h dX0_mirror_26 2 rfl rfl ?_
      refine hv_callw (ws' := (((hsW g cI cC cols sol oth out num (nI o) (nI d) (nI t) lf tk en m0 m1 m2 m3 m4)).set (33 + out) (g (33 + out), .inl (cI, 144, .inl (hx_fill (fun x y => hx_mc (cols (sol i0)) ax (nI x) (nI y)) (cols out)))))) h (hr_Vv (n := 2) (rest := []) h (13 + out) (hsW_cell hout) rfl (k_X1_becomeMirrored l D cI cC (hsW g cI cC cols sol oth out num (nI o) (nI d) (nI t) lf tk en m0 m1 m2 m3 m4) (13 + out) (33 + out) (g (13 + out)) (g (33 + out)) (cols out) (hsW_cell hout) (hsW_arr hout) (by omega) (13 + (sol i0)) (33 + (sol i0)) (g (13 + (sol i0))) (g (33 + (sol i0))) (cols (sol i0)) (hsW_cell (hsol i0 hi0)) (hsW_arr (hsol i0 hi0)) (by have := hsol i0 hi0; omega) (by have := hne i0 hi0; omega) ax) w_methodLink_X0_64 w_instanceMethod_X1_becomeMirrored w_selects_X1_becomeMirrored w_initialized_X1 w_code_X1_becomeMirrored (by decide +kernel) rfl rfl rfl ⟨by decide, by decide⟩ rfl (Nat.le_of_ble_eq_true rfl) ⟨Nat.zero_le _, Nat.zero_le _⟩ dX0_mirror_27) ?_
      refine hs_ws (ws' := (hsW g cI cC (va_up cols out (hx_fill (fun x y => hx_mc (cols (sol i0)) ax (nI x) (nI y)) (cols out))) sol oth out num (nI o) (nI d) (nI t) lf tk en m0 m1 m2 m3 m4)) (hsW_set hout _) ?_
      refine hv_aload_n h dX0_mirror_30 0 rfl rfl ?_
      refine hv_iload_n h dX0_mirror_31 1 rfl rfl ?_
      refine hv_callp (ws' := (hsW g cI cC (va_up cols out (hx_fill (fun x y => hx_mc (cols (sol i0)) ax (nI x) (nI y)) (cols out))) (va_up sol i0 out) (va_up oth (hq_p o d) (sol i0)) (oth (hq_p o d)) (upd num (hq_p o d) (nI i0)) (nI (hq_o o d)) (nI (hq_d d + 1)) 0 lf tk en m0 m1 m2 m3 m4)) (v := hx_cnt ((va_up cols out (hx_fill (fun x y => hx_mc (cols (sol i0)) ax (nI x) (nI y)) (cols out))) out)) h (hr_Vi (n := 1) (rest := []) h 0 rfl rfl (k_X0_takeStep l D cI cC g (va_up cols out (hx_fill (fun x y => hx_mc (cols (sol i0)) ax (nI x) (nI y)) (cols out))) sol oth out num o d t lf tk en m0 m1 m2 m3 m4 i0 hi0 ho hd hsol hoth hout) w_methodLink_X0_49 w_instanceMethod_X0_takeStep w_selects_X0_takeStep w_initialized_X0 w_code_X0_takeStep (by decide +kernel) rfl rfl rfl ⟨by decide, by decide⟩ rfl (Nat.le_of_ble_eq_true rfl) ⟨Nat.zero_le _, Nat.zero_le _⟩ dX0_mirror_32) ?_
      exact hv_iret h hr hlk hQ dX0_mirror_35 (Or.inr (⟨i0, hi0, rfl, by simp [c4, c11, hcli0], by rw [va_up_self], rfl⟩))
    · refine hv_iconst h ((-1)) dX0_mirror_14 (by decide) ?_
      exact hv_iret h hr hlk hQ dX0_mirror_15 (Or.inl ⟨by simp [c4, c11], rfl, rfl⟩)
abbrev rX0_shift : Room := { frames := 6, cells := 0, slots := 0, locals := 137 }
set_option maxHeartbeats 1000000 in
set_option maxRecDepth 100000 in
theorem k_X0_shift (l : Launch) (D : va_G) (cI cC : ClassId) (g : Nat → Nat) (cols : Nat → Nat → Int32) (sol oth : Nat → Nat) (out : Nat) (num : Nat → Int32) (o d t : Nat) (lf tk : Nat → Int32) (en : Int32) (m0 m1 m2 m3 m4 : Nat × va_E) (s0 : Int32) (dx : Int32) (dy : Int32) (dz : Int32) (ho : o < 12) (hd : d ≤ 12) (hsol : ∀ i, i < 6 → sol i < 20) (hoth : ∀ i, i < 12 → oth i < 20) (hout : out < 20) (hne : ∀ i, i < 6 → sol i ≠ out) : hsI l yX0_shift wsX0_shift rX0_shift D vwCl (hsT cI cC) [.ref (g 0), .int s0, .int dx, .int dy, .int dz] (hsW g cI cC cols sol oth out num (nI o) (nI d) (nI t) lf tk en m0 m1 m2 m3 m4) (fun r w => ((hx_in s0 6) = false ∧ r = -1 ∧ w = (hsW g cI cC cols sol oth out num (nI o) (nI d) (nI t) lf tk en m0 m1 m2 m3 m4)) ∨ ((hx_in s0 6) = true ∧ (!(hx_wl (cols (sol s0.toNatClampNeg)) 0 dx) && (!(hx_wl (cols (sol s0.toNatClampNeg)) 1 dy) && !(hx_wl (cols (sol s0.toNatClampNeg)) 2 dz))) = false ∧ r = -2 ∧ w = (hsW g cI cC cols sol oth out num (nI o) (nI d) (nI t) lf tk en m0 m1 m2 m3 m4)) ∨ (∃ i0 : Nat, i0 < 6 ∧ s0 = nI i0 ∧ (hx_in s0 6) = true ∧ (!(hx_wl (cols (sol s0.toNatClampNeg)) 0 dx) && (!(hx_wl (cols (sol s0.toNatClampNeg)) 1 dy) && !(hx_wl (cols (sol s0.toNatClampNeg)) 2 dz))) = true ∧ r = hx_cnt (hx_fill (hx_sh (cols (sol i0)) dx dy dz) (cols out)) ∧ w = hsStep g cI cC cols sol oth out num o d lf tk en m0 m1 m2 m3 m4 i0 (hx_fill (hx_sh (cols (sol i0)) dx dy dz) (cols out)))) := by
  refine hsI.enter (cc := cX0_shift) (maxL := 6) (ret := (some .int)) (by decide) rfl (Nat.le_of_ble_eq_true rfl) ?_
  intro Pg En Ss Mi Ar Be Me Co AA QQ hQ h hr hlk
  refine hs_lv (lv' := [(0, .ref (g 0)), (1, .int s0), (2, .int dx), (3, .int dy), (4, .int dz)]) rfl ?_
  refine hv_iload_n h dX0_shift_0 1 rfl rfl ?_
  refine hv_callp (ws' := (hsW g cI cC cols sol oth out num (nI o) (nI d) (nI t) lf tk en m0 m1 m2 m3 m4)) (v := hx_b (hx_in s0 6)) h (hr_Si (n := 1) (rest := []) h (k_X0_isSolid l D cI cC (hsW g cI cC cols sol oth out num (nI o) (nI d) (nI t) lf tk en m0 m1 m2 m3 m4) s0) w_methodLink_X0_37 w_static_X0_isSolid w_initialized_X0 w_code_X0_isSolid (by decide +kernel) rfl rfl rfl ⟨by decide, by decide⟩ rfl (Nat.le_of_ble_eq_true rfl) ⟨Nat.zero_le _, Nat.zero_le _⟩ dX0_shift_1) ?_
  refine hv_bif_ne h 9 dX0_shift_4 rfl (fun c4 => ?_) (fun c4 => ?_)
  · obtain ⟨i0, hi0, rfl⟩ := hx_in_nat (n := 6) (by decide) c4
    have hcli0 : (nI i0).toNatClampNeg = i0 := nI_clamp (by omega)
    refine hv_aload_n h dX0_shift_9 0 rfl rfl ?_
    refine hv_get (C := RX0) (T := TX0) (N := 5) h 0 rfl rfl 0 (by decide) wu_X0 w_fieldLink_X0_11 (fun _ h9 => h9) rfl dX0_shift_10 ?_
    refine hv_iload_n h dX0_shift_13 1 rfl rfl ?_
    refine hv_aald (v := .ref (g (13 + (sol i0)))) h 1 1 rfl rfl (vp_in_nI (by omega) (by decide)) (by rw [nI_clamp (by omega)]; rfl) dX0_shift_14 ?_
    refine hv_astore h [(5, .ref (g (13 + (sol i0)))), (0, .ref (g 0)), (1, .int (nI i0)), (2, .int dx), (3, .int dy), (4, .int dz)] dX0_shift_15 (by decide) rfl ?_
    refine hv_aload h dX0_shift_17 0 rfl ?_
    refine hv_iconst h (0) dX0_shift_19 (by decide) ?_
    refine hv_iload_n h dX0_shift_20 3 rfl rfl ?_
    refine hv_callp (ws' := (hsW g cI cC cols sol oth out num (nI o) (nI d) (nI t) lf tk en m0 m1 m2 m3 m4)) (v := hx_b (hx_wl (cols (sol i0)) 0 dx)) h (hr_Si (n := 3) (rest := []) h (k_X0_wouldLeave l D cI cC (hsW g cI cC cols sol oth out num (nI o) (nI d) (nI t) lf tk en m0 m1 m2 m3 m4) (13 + (sol i0)) (33 + (sol i0)) (g (13 + (sol i0))) (g (33 + (sol i0))) (cols (sol i0)) (hsW_cell (hsol i0 hi0)) (hsW_arr (hsol i0 hi0)) 0 dx) w_methodLink_X0_67 w_static_X0_wouldLeave w_initialized_X0 w_code_X0_wouldLeave (by decide +kernel) rfl rfl rfl ⟨by decide, by decide⟩ rfl (Nat.le_of_ble_eq_true rfl) ⟨Nat.zero_le _, Nat.zero_le _⟩ dX0_shift_21) ?_
    refine hv_bif_ne h 48 dX0_shift_24 rfl (fun c24 => ?_) (fun c24 => ?_)
    · refine hv_bipush h ((-2)) dX0_shift_48 (by decide) ?_
      exact hv_iret h hr hlk hQ dX0_shift_50 (Or.inr (Or.inl ⟨by simp [c4, hcli0, c24], by simp [c4, hcli0, c24], rfl, rfl⟩))
    · refine hv_aload h dX0_shift_27 0 rfl ?_
      refine hv_iconst h (1) dX0_shift_29 (by decide) ?_
      refine hv_iload_n h dX0_shift_30 4 rfl rfl ?_
      refine hv_callp (ws' := (hsW g cI cC cols sol oth out num (nI o) (nI d) (nI t) lf tk en m0 m1 m2 m3 m4)) (v := hx_b (hx_wl (cols (sol i0)) 1 dy)) h (hr_Si (n := 3) (rest := []) h (k_X0_wouldLeave l D cI cC (hsW g cI cC cols sol oth out num (nI o) (nI d) (nI t) lf tk en m0 m1 m2 m3 m4) (13 + (sol i0)) (33 + (sol i0)) (g (13 + (sol i0))) (g (33 + (sol i0))) (cols (sol i0)) (hsW_cell (hsol i0 hi0)) (hsW_arr (hsol i0 hi0)) 1 dy) w_methodLink_X0_67 w_static_X0_wouldLeave w_initialized_X0 w_code_X0_wouldLeave (by decide +kernel) rfl rfl rfl ⟨by decide, by decide⟩ rfl (Nat.le_of_ble_eq_true rfl) ⟨Nat.zero_le _, Nat.zero_le _⟩ dX0_shift_31) ?_
      refine hv_bif_ne h 48 dX0_shift_34 rfl (fun c34 => ?_) (fun c34 => ?_)
      · refine hv_bipush h ((-2)) dX0_shift_48 (by decide) ?_
        exact hv_iret h hr hlk hQ dX0_shift_50 (Or.inr (Or.inl ⟨by simp [c4, hcli0, c24, c34], by simp [c4, hcli0, c24, c34], rfl, rfl⟩))
      · refine hv_aload h dX0_shift_37 0 rfl ?_
        refine hv_iconst h (2) dX0_shift_39 (by decide) ?_
        refine hv_iload h dX0_shift_40 5 rfl ?_
        refine hv_callp (ws' := (hsW g cI cC cols sol oth out num (nI o) (nI d) (nI t) lf tk en m0 m1 m2 m3 m4)) (v := hx_b (hx_wl (cols (sol i0)) 2 dz)) h (hr_Si (n := 3) (rest := []) h (k_X0_wouldLeave l D cI cC (hsW g cI cC cols sol oth out num (nI o) (nI d) (nI t) lf tk en m0 m1 m2 m3 m4) (13 + (sol i0)) (33 + (sol i0)) (g (13 + (sol i0))) (g (33 + (sol i0))) (cols (sol i0)) (hsW_cell (hsol i0 hi0)) (hsW_arr (hsol i0 hi0)) 2 dz) w_methodLink_X0_67 w_static_X0_wouldLeave w_initialized_X0 w_code_X0_wouldLeave (by decide +kernel) rfl rfl rfl ⟨by decide, by decide⟩ rfl (Nat.le_of_ble_eq_true rfl) ⟨Nat.zero_le _, Nat.zero_le _⟩ dX0_shift_42) ?_
        refine hv_bif_eq h 51 dX0_shift_45 rfl (fun c45 => ?_) (fun c45 => ?_)
        · refine hv_aload_n h dX0_shift_51 1 rfl rfl ?_
          refine hv_get (C := RX0) (T := TX0) (N := 5) h 0 rfl rfl 4 (by decide) wu_X0 w_fieldLink_X0_34 (fun _ h9 => h9) rfl dX0_shift_52 ?_
          refine hv_aload h dX0_shift_55 0 rfl ?_
          refine hv_iload_n h dX0_shift_57 3 rfl rfl ?_
          refine hv_iload_n h dX0_shift_58 4 rfl rfl ?_
          refine hv_iload h dX0_shift_59 5 rfl ?_
          refine hv_callw (ws' := (((hsW g cI cC cols sol oth out num (nI o) (nI d) (nI t) lf tk en m0 m1 m2 m3 m4)).set (33 + out) (g (33 + out), .inl (cI, 144, .inl (hx_fill (hx_sh (cols (sol i0)) dx dy dz) (cols out)))))) h (hr_Vv (n := 4) (rest := []) h (13 + out) (hsW_cell hout) rfl (k_X1_becomeShifted l D cI cC (hsW g cI cC cols sol oth out num (nI o) (nI d) (nI t) lf tk en m0 m1 m2 m3 m4) (13 + out) (33 + out) (g (13 + out)) (g (33 + out)) (cols out) (hsW_cell hout) (hsW_arr hout) (by omega) (13 + (sol i0)) (33 + (sol i0)) (g (13 + (sol i0))) (g (33 + (sol i0))) (cols (sol i0)) (hsW_cell (hsol i0 hi0)) (hsW_arr (hsol i0 hi0)) (by have := hsol i0 hi0; omega) (by have := hne i0 hi0; omega) dx dy dz) w_methodLink_X0_71 w_instanceMethod_X1_becomeShifted w_selects_X1_becomeShifted w_initialized_X1 w_code_X1_becomeShifted (by decide +kernel) rfl rfl rfl ⟨by decide, by decide⟩ rfl (Nat.le_of_ble_eq_true rfl) ⟨Nat.zero_le _, Nat.zero_le _⟩ dX0_shift_61) ?_
          refine hs_ws (ws' := (hsW g cI cC (va_up cols out (hx_fill (hx_sh (cols (sol i0)) dx dy dz) (cols out))) sol oth out num (nI o) (nI d) (nI t) lf tk en m0 m1 m2 m3 m4)) (hsW_set hout _) ?_
          refine hv_aload_n h dX0_shift_64 1 rfl rfl ?_
          refine hv_iload_n h dX0_shift_65 2 rfl rfl ?_
          refine hv_callp (ws' := (hsW g cI cC (va_up cols out (hx_fill (hx_sh (cols (sol i0)) dx dy dz) (cols out))) (va_up sol i0 out) (va_up oth (hq_p o d) (sol i0)) (oth (hq_p o d)) (upd num (hq_p o d) (nI i0)) (nI (hq_o o d)) (nI (hq_d d + 1)) 0 lf tk en m0 m1 m2 m3 m4)) (v := hx_cnt ((va_up cols out (hx_fill (hx_sh (cols (sol i0)) dx dy dz) (cols out))) out)) h (hr_Vi (n := 1) (rest := []) h 0 rfl rfl (k_X0_takeStep l D cI cC g (va_up cols out (hx_fill (hx_sh (cols (sol i0)) dx dy dz) (cols out))) sol oth out num o d t lf tk en m0 m1 m2 m3 m4 i0 hi0 ho hd hsol hoth hout) w_methodLink_X0_49 w_instanceMethod_X0_takeStep w_selects_X0_takeStep w_initialized_X0 w_code_X0_takeStep (by decide +kernel) rfl rfl rfl ⟨by decide, by decide⟩ rfl (Nat.le_of_ble_eq_true rfl) ⟨Nat.zero_le _, Nat.zero_le _⟩ dX0_shift_66) ?_
          exact hv_iret h hr hlk hQ dX0_shift_69 (Or.inr (Or.inr ⟨i0, hi0, rfl, by simp [c4, hcli0, c24, c34, c45], by simp [c4, hcli0, c24, c34, c45], by rw [va_up_self], rfl⟩))
        · refine hv_bipush h ((-2)) dX0_shift_48 (by decide) ?_
          exact hv_iret h hr hlk hQ dX0_shift_50 (Or.inr (Or.inl ⟨by simp [c4, hcli0, c24, c34, c45], by simp [c4, hcli0, c24, c34, c45], rfl, rfl⟩))
  · refine hv_iconst h ((-1)) dX0_shift_7 (by decide) ?_
    exact hv_iret h hr hlk hQ dX0_shift_8 (Or.inl ⟨by simp [c4], rfl, rfl⟩)
abbrev rX0_sweep : Room := { frames := 3, cells := 0, slots := 0, locals := 71 }
set_option maxHeartbeats 1000000 in
set_option maxRecDepth 100000 in
theorem k_X0_sweep (l : Launch) (D : va_G) (cI cC : ClassId) (g : Nat → Nat) (cols : Nat → Nat → Int32) (sol oth : Nat → Nat) (out : Nat) (num : Nat → Int32) (o d t : Nat) (lf tk : Nat → Int32) (en : Int32) (m0 m1 m2 m3 m4 : Nat × va_E) (s0 : Int32) (a0 : Int32) (ax : Int32) (w0 : Int32) (b0 : Int32) (b1 : Int32) (ho : o < 12) (hd : d ≤ 12) (hsol : ∀ i, i < 6 → sol i < 20) (hoth : ∀ i, i < 12 → oth i < 20) (hout : out < 20) (hne : ∀ i, i < 6 → sol i ≠ out) : hsI l yX0_sweep wsX0_sweep rX0_sweep D vwCl (hsT cI cC) [.ref (g 0), .int s0, .int a0, .int ax, .int w0, .int b0, .int b1] (hsW g cI cC cols sol oth out num (nI o) (nI d) (nI t) lf tk en m0 m1 m2 m3 m4) (fun r w => ((hx_in s0 6 && (hx_in a0 6 && (hx_in ax 3 && hx_in w0 12))) = false ∧ r = -1 ∧ w = (hsW g cI cC cols sol oth out num (nI o) (nI d) (nI t) lf tk en m0 m1 m2 m3 m4)) ∨ ((hx_in s0 6 && (hx_in a0 6 && (hx_in ax 3 && hx_in w0 12))) = true ∧ (!(decide (b1 < b0)) && (hx_in b0 12 && hx_in b1 12)) = false ∧ r = -2 ∧ w = (hsW g cI cC cols sol oth out num (nI o) (nI d) (nI t) lf tk en m0 m1 m2 m3 m4)) ∨ (∃ i0 : Nat, i0 < 6 ∧ s0 = nI i0 ∧ (hx_in s0 6 && (hx_in a0 6 && (hx_in ax 3 && hx_in w0 12))) = true ∧ (!(decide (b1 < b0)) && (hx_in b0 12 && hx_in b1 12)) = true ∧ r = hx_cnt (hx_fill (hx_sw (cols (sol a0.toNatClampNeg)) ax w0 b0 b1) (cols out)) ∧ w = hsStep g cI cC cols sol oth out num o d lf tk en m0 m1 m2 m3 m4 i0 (hx_fill (hx_sw (cols (sol a0.toNatClampNeg)) ax w0 b0 b1) (cols out)))) := by
  refine hsI.enter (cc := cX0_sweep) (maxL := 7) (ret := (some .int)) (by decide) rfl (Nat.le_of_ble_eq_true rfl) ?_
  intro Pg En Ss Mi Ar Be Me Co AA QQ hQ h hr hlk
  refine hs_lv (lv' := [(0, .ref (g 0)), (1, .int s0), (2, .int a0), (3, .int ax), (4, .int w0), (5, .int b0), (6, .int b1)]) rfl ?_
  refine hv_iload_n h dX0_sweep_0 1 rfl rfl ?_
  refine hv_callp (ws' := (hsW g cI cC cols sol oth out num (nI o) (nI d) (nI t) lf tk en m0 m1 m2 m3 m4)) (v := hx_b (hx_in s0 6)) h (hr_Si (n := 1) (rest := []) h (k_X0_isSolid l D cI cC (hsW g cI cC cols sol oth out num (nI o) (nI d) (nI t) lf tk en m0 m1 m2 m3 m4) s0) w_methodLink_X0_37 w_static_X0_isSolid w_initialized_X0 w_code_X0_isSolid (by decide +kernel) rfl rfl rfl ⟨by decide, by decide⟩ rfl (Nat.le_of_ble_eq_true rfl) ⟨Nat.zero_le _, Nat.zero_le _⟩ dX0_sweep_1) ?_
  refine hv_bif_eq h 29 dX0_sweep_4 rfl (fun c4 => ?_) (fun c4 => ?_)
  · refine hv_iconst h ((-1)) dX0_sweep_29 (by decide) ?_
    exact hv_iret h hr hlk hQ dX0_sweep_30 (Or.inl ⟨by simp [c4], rfl, rfl⟩)
  · refine hv_iload_n h dX0_sweep_7 2 rfl rfl ?_
    refine hv_callp (ws' := (hsW g cI cC cols sol oth out num (nI o) (nI d) (nI t) lf tk en m0 m1 m2 m3 m4)) (v := hx_b (hx_in a0 6)) h (hr_Si (n := 1) (rest := []) h (k_X0_isSolid l D cI cC (hsW g cI cC cols sol oth out num (nI o) (nI d) (nI t) lf tk en m0 m1 m2 m3 m4) a0) w_methodLink_X0_37 w_static_X0_isSolid w_initialized_X0 w_code_X0_isSolid (by decide +kernel) rfl rfl rfl ⟨by decide, by decide⟩ rfl (Nat.le_of_ble_eq_true rfl) ⟨Nat.zero_le _, Nat.zero_le _⟩ dX0_sweep_8) ?_
    refine hv_bif_eq h 29 dX0_sweep_11 rfl (fun c11 => ?_) (fun c11 => ?_)
    · refine hv_iconst h ((-1)) dX0_sweep_29 (by decide) ?_
      exact hv_iret h hr hlk hQ dX0_sweep_30 (Or.inl ⟨by simp [c4, c11], rfl, rfl⟩)
    · refine hv_iload_n h dX0_sweep_14 3 rfl rfl ?_
      refine hv_callp (ws' := (hsW g cI cC cols sol oth out num (nI o) (nI d) (nI t) lf tk en m0 m1 m2 m3 m4)) (v := hx_b (hx_in ax 3)) h (hr_Si (n := 1) (rest := []) h (k_X0_isAxis l D cI cC (hsW g cI cC cols sol oth out num (nI o) (nI d) (nI t) lf tk en m0 m1 m2 m3 m4) ax) w_methodLink_X0_57 w_static_X0_isAxis w_initialized_X0 w_code_X0_isAxis (by decide +kernel) rfl rfl rfl ⟨by decide, by decide⟩ rfl (Nat.le_of_ble_eq_true rfl) ⟨Nat.zero_le _, Nat.zero_le _⟩ dX0_sweep_15) ?_
      refine hv_bif_eq h 29 dX0_sweep_18 rfl (fun c18 => ?_) (fun c18 => ?_)
      · refine hv_iconst h ((-1)) dX0_sweep_29 (by decide) ?_
        exact hv_iret h hr hlk hQ dX0_sweep_30 (Or.inl ⟨by simp [c4, c11, c18], rfl, rfl⟩)
      · refine hv_iload h dX0_sweep_21 4 rfl ?_
        refine hv_callp (ws' := (hsW g cI cC cols sol oth out num (nI o) (nI d) (nI t) lf tk en m0 m1 m2 m3 m4)) (v := hx_b (hx_in w0 12)) h (hr_Si (n := 1) (rest := []) h (k_X0_isCoordinate l D cI cC (hsW g cI cC cols sol oth out num (nI o) (nI d) (nI t) lf tk en m0 m1 m2 m3 m4) w0) w_methodLink_X0_75 w_static_X0_isCoordinate w_initialized_X0 w_code_X0_isCoordinate (by decide +kernel) rfl rfl rfl ⟨by decide, by decide⟩ rfl (Nat.le_of_ble_eq_true rfl) ⟨Nat.zero_le _, Nat.zero_le _⟩ dX0_sweep_23) ?_
        refine hv_bif_ne h 31 dX0_sweep_26 rfl (fun c26 => ?_) (fun c26 => ?_)
        · refine hv_iload h dX0_sweep_31 5 rfl ?_
          refine hv_iload h dX0_sweep_33 6 rfl ?_
          refine hv_icmp_gt h 54 dX0_sweep_35 rfl (fun c35 => ?_) (fun c35 => ?_)
          · refine hv_bipush h ((-2)) dX0_sweep_54 (by decide) ?_
            exact hv_iret h hr hlk hQ dX0_sweep_56 (Or.inr (Or.inl ⟨by simp [c4, c11, c18, c26, c35], by simp [c4, c11, c18, c26, c35], rfl, rfl⟩))
          · refine hv_iload h dX0_sweep_38 5 rfl ?_
            refine hv_callp (ws' := (hsW g cI cC cols sol oth out num (nI o) (nI d) (nI t) lf tk en m0 m1 m2 m3 m4)) (v := hx_b (hx_in b0 12)) h (hr_Si (n := 1) (rest := []) h (k_X0_isCoordinate l D cI cC (hsW g cI cC cols sol oth out num (nI o) (nI d) (nI t) lf tk en m0 m1 m2 m3 m4) b0) w_methodLink_X0_75 w_static_X0_isCoordinate w_initialized_X0 w_code_X0_isCoordinate (by decide +kernel) rfl rfl rfl ⟨by decide, by decide⟩ rfl (Nat.le_of_ble_eq_true rfl) ⟨Nat.zero_le _, Nat.zero_le _⟩ dX0_sweep_40) ?_
            refine hv_bif_eq h 54 dX0_sweep_43 rfl (fun c43 => ?_) (fun c43 => ?_)
            · refine hv_bipush h ((-2)) dX0_sweep_54 (by decide) ?_
              exact hv_iret h hr hlk hQ dX0_sweep_56 (Or.inr (Or.inl ⟨by simp [c4, c11, c18, c26, c35, c43], by simp [c4, c11, c18, c26, c35, c43], rfl, rfl⟩))
            · refine hv_iload h dX0_sweep_46 6 rfl ?_
              refine hv_callp (ws' := (hsW g cI cC cols sol oth out num (nI o) (nI d) (nI t) lf tk en m0 m1 m2 m3 m4)) (v := hx_b (hx_in b1 12)) h (hr_Si (n := 1) (rest := []) h (k_X0_isCoordinate l D cI cC (hsW g cI cC cols sol oth out num (nI o) (nI d) (nI t) lf tk en m0 m1 m2 m3 m4) b1) w_methodLink_X0_75 w_static_X0_isCoordinate w_initialized_X0 w_code_X0_isCoordinate (by decide +kernel) rfl rfl rfl ⟨by decide, by decide⟩ rfl (Nat.le_of_ble_eq_true rfl) ⟨Nat.zero_le _, Nat.zero_le _⟩ dX0_sweep_48) ?_
              refine hv_bif_ne h 57 dX0_sweep_51 rfl (fun c51 => ?_) (fun c51 => ?_)
              · obtain ⟨i0, hi0, rfl⟩ := hx_in_nat (n := 6) (by decide) c4
                have hcli0 : (nI i0).toNatClampNeg = i0 := nI_clamp (by omega)
                obtain ⟨i1, hi1, rfl⟩ := hx_in_nat (n := 6) (by decide) c11
                have hcli1 : (nI i1).toNatClampNeg = i1 := nI_clamp (by omega)
                refine hv_aload_n h dX0_sweep_57 0 rfl rfl ?_
                refine hv_get (C := RX0) (T := TX0) (N := 5) h 0 rfl rfl 4 (by decide) wu_X0 w_fieldLink_X0_34 (fun _ h9 => h9) rfl dX0_sweep_58 ?_
                refine hv_aload_n h dX0_sweep_61 0 rfl rfl ?_
                refine hv_get (C := RX0) (T := TX0) (N := 5) h 0 rfl rfl 0 (by decide) wu_X0 w_fieldLink_X0_11 (fun _ h9 => h9) rfl dX0_sweep_62 ?_
                refine hv_iload_n h dX0_sweep_65 2 rfl rfl ?_
                refine hv_aald (v := .ref (g (13 + (sol i1)))) h 1 1 rfl rfl (vp_in_nI (by omega) (by decide)) (by rw [nI_clamp (by omega)]; rfl) dX0_sweep_66 ?_
                refine hv_iload_n h dX0_sweep_67 3 rfl rfl ?_
                refine hv_iload h dX0_sweep_68 4 rfl ?_
                refine hv_iload h dX0_sweep_70 5 rfl ?_
                refine hv_iload h dX0_sweep_72 6 rfl ?_
                refine hv_callw (ws' := (((hsW g cI cC cols sol oth out num (nI o) (nI d) (nI t) lf tk en m0 m1 m2 m3 m4)).set (33 + out) (g (33 + out), .inl (cI, 144, .inl (hx_fill (hx_sw (cols (sol i1)) ax w0 b0 b1) (cols out)))))) h (hr_Vv (n := 5) (rest := []) h (13 + out) (hsW_cell hout) rfl (k_X1_becomeSwept l D cI cC (hsW g cI cC cols sol oth out num (nI o) (nI d) (nI t) lf tk en m0 m1 m2 m3 m4) (13 + out) (33 + out) (g (13 + out)) (g (33 + out)) (cols out) (hsW_cell hout) (hsW_arr hout) (by omega) (13 + (sol i1)) (33 + (sol i1)) (g (13 + (sol i1))) (g (33 + (sol i1))) (cols (sol i1)) (hsW_cell (hsol i1 hi1)) (hsW_arr (hsol i1 hi1)) (by have := hsol i1 hi1; omega) (by have := hne i1 hi1; omega) ax w0 b0 b1) w_methodLink_X0_78 w_instanceMethod_X1_becomeSwept w_selects_X1_becomeSwept w_initialized_X1 w_code_X1_becomeSwept (by decide +kernel) rfl rfl rfl ⟨by decide, by decide⟩ rfl (Nat.le_of_ble_eq_true rfl) ⟨Nat.zero_le _, Nat.zero_le _⟩ dX0_sweep_74) ?_
                refine hs_ws (ws' := (hsW g cI cC (va_up cols out (hx_fill (hx_sw (cols (sol i1)) ax w0 b0 b1) (cols out))) sol oth out num (nI o) (nI d) (nI t) lf tk en m0 m1 m2 m3 m4)) (hsW_set hout _) ?_
                refine hv_aload_n h dX0_sweep_77 0 rfl rfl ?_
                refine hv_iload_n h dX0_sweep_78 1 rfl rfl ?_
                refine hv_callp (ws' := (hsW g cI cC (va_up cols out (hx_fill (hx_sw (cols (sol i1)) ax w0 b0 b1) (cols out))) (va_up sol i0 out) (va_up oth (hq_p o d) (sol i0)) (oth (hq_p o d)) (upd num (hq_p o d) (nI i0)) (nI (hq_o o d)) (nI (hq_d d + 1)) 0 lf tk en m0 m1 m2 m3 m4)) (v := hx_cnt ((va_up cols out (hx_fill (hx_sw (cols (sol i1)) ax w0 b0 b1) (cols out))) out)) h (hr_Vi (n := 1) (rest := []) h 0 rfl rfl (k_X0_takeStep l D cI cC g (va_up cols out (hx_fill (hx_sw (cols (sol i1)) ax w0 b0 b1) (cols out))) sol oth out num o d t lf tk en m0 m1 m2 m3 m4 i0 hi0 ho hd hsol hoth hout) w_methodLink_X0_49 w_instanceMethod_X0_takeStep w_selects_X0_takeStep w_initialized_X0 w_code_X0_takeStep (by decide +kernel) rfl rfl rfl ⟨by decide, by decide⟩ rfl (Nat.le_of_ble_eq_true rfl) ⟨Nat.zero_le _, Nat.zero_le _⟩ dX0_sweep_79) ?_
                exact hv_iret h hr hlk hQ dX0_sweep_82 (Or.inr (Or.inr ⟨i0, hi0, rfl, by simp [c4, c11, c18, c26, c35, c43, c51, hcli0, hcli1], by simp [c4, c11, c18, c26, c35, c43, c51, hcli0, hcli1], by rw [va_up_self, hcli1], (by rw [hcli1]; rfl)⟩))
              · refine hv_bipush h ((-2)) dX0_sweep_54 (by decide) ?_
                exact hv_iret h hr hlk hQ dX0_sweep_56 (Or.inr (Or.inl ⟨by simp [c4, c11, c18, c26, c35, c43, c51], by simp [c4, c11, c18, c26, c35, c43, c51], rfl, rfl⟩))
        · refine hv_iconst h ((-1)) dX0_sweep_29 (by decide) ?_
          exact hv_iret h hr hlk hQ dX0_sweep_30 (Or.inl ⟨by simp [c4, c11, c18, c26], rfl, rfl⟩)
