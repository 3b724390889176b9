abbrev rX0_volume : Room := { frames := 2, cells := 0, slots := 0, locals := 42 }
set_option maxHeartbeats 1000000 in
set_option maxRecDepth 100000 in
theorem k_X0_volume (l : Launch) (D : va_G) (cI cC : ClassId) (g : Nat → Nat) (cols : Nat → Nat → Int32) (sol oth : Nat → Nat) (out : Nat) (num : Nat → Int32) (od dn tb : Int32) (lf tk : Nat → Int32) (en : Int32) (m0 m1 m2 m3 m4 : Nat × va_E) (s0 : Int32) (hsol : ∀ i, i < 6 → sol i < 20) : hsI l yX0_volume wsX0_volume rX0_volume D vwCl (hsT cI cC) [.ref (g 0), .int s0] (hsW g cI cC cols sol oth out num od dn tb lf tk en m0 m1 m2 m3 m4) (fun r w => r = hc_rd (fun f => hx_cnt f) cols sol s0 ∧ w = (hsW g cI cC cols sol oth out num od dn tb lf tk en m0 m1 m2 m3 m4)) := by
  refine hsI.enter (cc := cX0_volume) (maxL := 2) (ret := (some .int)) (by decide) rfl (Nat.le_of_ble_eq_true rfl) ?_
  intro Pg En Ss Mi Ar Be Me Co AA QQ hQ h hr hlk
  refine hs_lv (lv' := [(0, .ref (g 0)), (1, .int s0)]) rfl ?_
  refine hv_iload_n h dX0_volume_0 1 rfl rfl ?_
  refine hv_callp (ws' := (hsW g cI cC cols sol oth out num od dn tb lf tk en m0 m1 m2 m3 m4)) (v := hx_b (hx_in s0 6)) h (hr_Si (n := 1) (rest := []) h (k_X0_isSolid l D cI cC (hsW g cI cC cols sol oth out num od dn tb lf tk en m0 m1 m2 m3 m4) s0) w_methodLink_X0_37 w_static_X0_isSolid w_initialized_X0 w_code_X0_isSolid (by decide +kernel) rfl rfl rfl ⟨by decide, by decide⟩ rfl (Nat.le_of_ble_eq_true rfl) ⟨Nat.zero_le _, Nat.zero_le _⟩ dX0_volume_1) ?_
  refine hv_bif_eq h 19 dX0_volume_4 rfl (fun c4 => ?_) (fun c4 => ?_)
  · refine hv_iconst h ((-1)) dX0_volume_19 (by decide) ?_
    exact hv_iret h hr hlk hQ dX0_volume_20 ⟨(hc_rd_bad c4).symm, rfl⟩
  · obtain ⟨i0, hi0, rfl⟩ := hx_in_nat (n := 6) (by decide) c4
    have hcli0 : (nI i0).toNatClampNeg = i0 := nI_clamp (by omega)
    refine hv_aload_n h dX0_volume_7 0 rfl rfl ?_
    refine hv_get (C := RX0) (T := TX0) (N := 5) h 0 rfl rfl 0 (by decide) wu_X0 w_fieldLink_X0_11 (fun _ h9 => h9) rfl dX0_volume_8 ?_
    refine hv_iload_n h dX0_volume_11 1 rfl rfl ?_
    refine hv_aald (v := .ref (g (13 + (sol i0)))) h 1 1 rfl rfl (vp_in_nI (by omega) (by decide)) (by rw [nI_clamp (by omega)]; rfl) dX0_volume_12 ?_
    refine hv_callp (ws' := (hsW g cI cC cols sol oth out num od dn tb lf tk en m0 m1 m2 m3 m4)) (v := hx_cnt (cols (sol i0))) h (hr_Vi (n := 0) (rest := []) h (13 + (sol i0)) (hsW_cell (hsol i0 hi0)) rfl (k_X1_countCells l D cI cC (hsW g cI cC cols sol oth out num od dn tb lf tk en m0 m1 m2 m3 m4) (13 + (sol i0)) (33 + (sol i0)) (g (13 + (sol i0))) (g (33 + (sol i0))) (cols (sol i0)) (hsW_cell (hsol i0 hi0)) (hsW_arr (hsol i0 hi0)) ) w_methodLink_X0_89 w_instanceMethod_X1_countCells w_selects_X1_countCells w_initialized_X1 w_code_X1_countCells (by decide +kernel) rfl rfl rfl ⟨by decide, by decide⟩ rfl (Nat.le_of_ble_eq_true rfl) ⟨Nat.zero_le _, Nat.zero_le _⟩ dX0_volume_13) ?_
    refine hv_goto h 20 dX0_volume_16 rfl ?_
    exact hv_iret h hr hlk hQ dX0_volume_20 ⟨(hc_rd_ok hi0).symm, rfl⟩
abbrev rX0_sides : Room := { frames := 3, cells := 0, slots := 0, locals := 66 }
set_option maxHeartbeats 1000000 in
set_option maxRecDepth 100000 in
theorem k_X0_sides (l : Launch) (D : va_G) (cI cC : ClassId) (g : Nat → Nat) (cols : Nat → Nat → Int32) (sol oth : Nat → Nat) (out : Nat) (num : Nat → Int32) (od dn tb : Int32) (lf tk : Nat → Int32) (en : Int32) (m0 m1 m2 m3 m4 : Nat × va_E) (s0 : Int32) (hsol : ∀ i, i < 6 → sol i < 20) : hsI l yX0_sides wsX0_sides rX0_sides D vwCl (hsT cI cC) [.ref (g 0), .int s0] (hsW g cI cC cols sol oth out num od dn tb lf tk en m0 m1 m2 m3 m4) (fun r w => r = hc_rd (fun f => hx_sides f) cols sol s0 ∧ w = (hsW g cI cC cols sol oth out num od dn tb lf tk en m0 m1 m2 m3 m4)) := by
  refine hsI.enter (cc := cX0_sides) (maxL := 2) (ret := (some .int)) (by decide) rfl (Nat.le_of_ble_eq_true rfl) ?_
  intro Pg En Ss Mi Ar Be Me Co AA QQ hQ h hr hlk
  refine hs_lv (lv' := [(0, .ref (g 0)), (1, .int s0)]) rfl ?_
  refine hv_iload_n h dX0_sides_0 1 rfl rfl ?_
  refine hv_callp (ws' := (hsW g cI cC cols sol oth out num od dn tb lf tk en m0 m1 m2 m3 m4)) (v := hx_b (hx_in s0 6)) h (hr_Si (n := 1) (rest := []) h (k_X0_isSolid l D cI cC (hsW g cI cC cols sol oth out num od dn tb lf tk en m0 m1 m2 m3 m4) s0) w_methodLink_X0_37 w_static_X0_isSolid w_initialized_X0 w_code_X0_isSolid (by decide +kernel) rfl rfl rfl ⟨by decide, by decide⟩ rfl (Nat.le_of_ble_eq_true rfl) ⟨Nat.zero_le _, Nat.zero_le _⟩ dX0_sides_1) ?_
  refine hv_bif_eq h 19 dX0_sides_4 rfl (fun c4 => ?_) (fun c4 => ?_)
  · refine hv_iconst h ((-1)) dX0_sides_19 (by decide) ?_
    exact hv_iret h hr hlk hQ dX0_sides_20 ⟨(hc_rd_bad c4).symm, rfl⟩
  · obtain ⟨i0, hi0, rfl⟩ := hx_in_nat (n := 6) (by decide) c4
    have hcli0 : (nI i0).toNatClampNeg = i0 := nI_clamp (by omega)
    refine hv_aload_n h dX0_sides_7 0 rfl rfl ?_
    refine hv_get (C := RX0) (T := TX0) (N := 5) h 0 rfl rfl 0 (by decide) wu_X0 w_fieldLink_X0_11 (fun _ h9 => h9) rfl dX0_sides_8 ?_
    refine hv_iload_n h dX0_sides_11 1 rfl rfl ?_
    refine hv_aald (v := .ref (g (13 + (sol i0)))) h 1 1 rfl rfl (vp_in_nI (by omega) (by decide)) (by rw [nI_clamp (by omega)]; rfl) dX0_sides_12 ?_
    refine hv_callp (ws' := (hsW g cI cC cols sol oth out num od dn tb lf tk en m0 m1 m2 m3 m4)) (v := hx_sides (cols (sol i0))) h (hr_Vi (n := 0) (rest := []) h (13 + (sol i0)) (hsW_cell (hsol i0 hi0)) rfl (k_X1_countSides l D cI cC (hsW g cI cC cols sol oth out num od dn tb lf tk en m0 m1 m2 m3 m4) (13 + (sol i0)) (33 + (sol i0)) (g (13 + (sol i0))) (g (33 + (sol i0))) (cols (sol i0)) (hsW_cell (hsol i0 hi0)) (hsW_arr (hsol i0 hi0)) ) w_methodLink_X0_93 w_instanceMethod_X1_countSides w_selects_X1_countSides w_initialized_X1 w_code_X1_countSides (by decide +kernel) rfl rfl rfl ⟨by decide, by decide⟩ rfl (Nat.le_of_ble_eq_true rfl) ⟨Nat.zero_le _, Nat.zero_le _⟩ dX0_sides_13) ?_
    refine hv_goto h 20 dX0_sides_16 rfl ?_
    exact hv_iret h hr hlk hQ dX0_sides_20 ⟨(hc_rd_ok hi0).symm, rfl⟩
abbrev rX0_edges : Room := { frames := 3, cells := 0, slots := 0, locals := 71 }
set_option maxHeartbeats 1000000 in
set_option maxRecDepth 100000 in
theorem k_X0_edges (l : Launch) (D : va_G) (cI cC : ClassId) (g : Nat → Nat) (cols : Nat → Nat → Int32) (sol oth : Nat → Nat) (out : Nat) (num : Nat → Int32) (od dn tb : Int32) (lf tk : Nat → Int32) (en : Int32) (m0 m1 m2 m3 m4 : Nat × va_E) (s0 : Int32) (hsol : ∀ i, i < 6 → sol i < 20) : hsI l yX0_edges wsX0_edges rX0_edges D vwCl (hsT cI cC) [.ref (g 0), .int s0] (hsW g cI cC cols sol oth out num od dn tb lf tk en m0 m1 m2 m3 m4) (fun r w => r = hc_rd (fun f => hx_edges f) cols sol s0 ∧ w = (hsW g cI cC cols sol oth out num od dn tb lf tk en m0 m1 m2 m3 m4)) := by
  refine hsI.enter (cc := cX0_edges) (maxL := 2) (ret := (some .int)) (by decide) rfl (Nat.le_of_ble_eq_true rfl) ?_
  intro Pg En Ss Mi Ar Be Me Co AA QQ hQ h hr hlk
  refine hs_lv (lv' := [(0, .ref (g 0)), (1, .int s0)]) rfl ?_
  refine hv_iload_n h dX0_edges_0 1 rfl rfl ?_
  refine hv_callp (ws' := (hsW g cI cC cols sol oth out num od dn tb lf tk en m0 m1 m2 m3 m4)) (v := hx_b (hx_in s0 6)) h (hr_Si (n := 1) (rest := []) h (k_X0_isSolid l D cI cC (hsW g cI cC cols sol oth out num od dn tb lf tk en m0 m1 m2 m3 m4) s0) w_methodLink_X0_37 w_static_X0_isSolid w_initialized_X0 w_code_X0_isSolid (by decide +kernel) rfl rfl rfl ⟨by decide, by decide⟩ rfl (Nat.le_of_ble_eq_true rfl) ⟨Nat.zero_le _, Nat.zero_le _⟩ dX0_edges_1) ?_
  refine hv_bif_eq h 19 dX0_edges_4 rfl (fun c4 => ?_) (fun c4 => ?_)
  · refine hv_iconst h ((-1)) dX0_edges_19 (by decide) ?_
    exact hv_iret h hr hlk hQ dX0_edges_20 ⟨(hc_rd_bad c4).symm, rfl⟩
  · obtain ⟨i0, hi0, rfl⟩ := hx_in_nat (n := 6) (by decide) c4
    have hcli0 : (nI i0).toNatClampNeg = i0 := nI_clamp (by omega)
    refine hv_aload_n h dX0_edges_7 0 rfl rfl ?_
    refine hv_get (C := RX0) (T := TX0) (N := 5) h 0 rfl rfl 0 (by decide) wu_X0 w_fieldLink_X0_11 (fun _ h9 => h9) rfl dX0_edges_8 ?_
    refine hv_iload_n h dX0_edges_11 1 rfl rfl ?_
    refine hv_aald (v := .ref (g (13 + (sol i0)))) h 1 1 rfl rfl (vp_in_nI (by omega) (by decide)) (by rw [nI_clamp (by omega)]; rfl) dX0_edges_12 ?_
    refine hv_callp (ws' := (hsW g cI cC cols sol oth out num od dn tb lf tk en m0 m1 m2 m3 m4)) (v := hx_edges (cols (sol i0))) h (hr_Vi (n := 0) (rest := []) h (13 + (sol i0)) (hsW_cell (hsol i0 hi0)) rfl (k_X1_countEdges l D cI cC (hsW g cI cC cols sol oth out num od dn tb lf tk en m0 m1 m2 m3 m4) (13 + (sol i0)) (33 + (sol i0)) (g (13 + (sol i0))) (g (33 + (sol i0))) (cols (sol i0)) (hsW_cell (hsol i0 hi0)) (hsW_arr (hsol i0 hi0)) ) w_methodLink_X0_96 w_instanceMethod_X1_countEdges w_selects_X1_countEdges w_initialized_X1 w_code_X1_countEdges (by decide +kernel) rfl rfl rfl ⟨by decide, by decide⟩ rfl (Nat.le_of_ble_eq_true rfl) ⟨Nat.zero_le _, Nat.zero_le _⟩ dX0_edges_13) ?_
    refine hv_goto h 20 dX0_edges_16 rfl ?_
    exact hv_iret h hr hlk hQ dX0_edges_20 ⟨(hc_rd_ok hi0).symm, rfl⟩
abbrev rX0_pieces : Room := { frames := 6, cells := 0, slots := 0, locals := 139 }
set_option maxHeartbeats 1000000 in
set_option maxRecDepth 100000 in
theorem k_X0_pieces (l : Launch) (D : va_G) (cI cC : ClassId) (g : Nat → Nat) (cols : Nat → Nat → Int32) (sol oth : Nat → Nat) (out : Nat) (num : Nat → Int32) (od dn tb : Int32) (X : HF) (m0 m1 m2 m3 m4 : Nat × va_E) (s0 : Int32) (hsol : ∀ i, i < 6 → sol i < 20) : hsI l yX0_pieces wsX0_pieces rX0_pieces D vwCl (hsT cI cC) [.ref (g 0), .int s0] (hsW g cI cC cols sol oth out num od dn tb X.1 X.2.1 (nI X.2.2) m0 m1 m2 m3 m4) (fun r w => r = hc_if (hx_in s0 6) (-1) (hf_pc (cols (sol s0.toNatClampNeg)) X).2 ∧ ∃ Y : HF, w = (hsW g cI cC cols sol oth out num od dn tb Y.1 Y.2.1 (nI Y.2.2) m0 m1 m2 m3 m4)) := by
  refine hsI.enter (cc := cX0_pieces) (maxL := 2) (ret := (some .int)) (by decide) rfl (Nat.le_of_ble_eq_true rfl) ?_
  intro Pg En Ss Mi Ar Be Me Co AA QQ hQ h hr hlk
  refine hs_lv (lv' := [(0, .ref (g 0)), (1, .int s0)]) rfl ?_
  refine hv_iload_n h dX0_pieces_0 1 rfl rfl ?_
  refine hv_callp (ws' := (hsW g cI cC cols sol oth out num od dn tb X.1 X.2.1 (nI X.2.2) m0 m1 m2 m3 m4)) (v := hx_b (hx_in s0 6)) h (hr_Si (n := 1) (rest := []) h (k_X0_isSolid l D cI cC (hsW g cI cC cols sol oth out num od dn tb X.1 X.2.1 (nI X.2.2) m0 m1 m2 m3 m4) s0) w_methodLink_X0_37 w_static_X0_isSolid w_initialized_X0 w_code_X0_isSolid (by decide +kernel) rfl rfl rfl ⟨by decide, by decide⟩ rfl (Nat.le_of_ble_eq_true rfl) ⟨Nat.zero_le _, Nat.zero_le _⟩ dX0_pieces_1) ?_
  refine hv_bif_eq h 23 dX0_pieces_4 rfl (fun c4 => ?_) (fun c4 => ?_)
  · refine hv_iconst h ((-1)) dX0_pieces_23 (by decide) ?_
    exact hv_iret h hr hlk hQ dX0_pieces_24 ⟨(by simp [hc_if, c4]), X, rfl⟩
  · obtain ⟨i0, hi0, rfl⟩ := hx_in_nat (n := 6) (by decide) c4
    have hcli0 : (nI i0).toNatClampNeg = i0 := nI_clamp (by omega)
    refine hv_aload_n h dX0_pieces_7 0 rfl rfl ?_
    refine hv_get (C := RX0) (T := TX0) (N := 5) h 0 rfl rfl 3 (by decide) wu_X0 w_fieldLink_X0_30 (fun _ h9 => h9) rfl dX0_pieces_8 ?_
    refine hv_aload_n h dX0_pieces_11 0 rfl rfl ?_
    refine hv_get (C := RX0) (T := TX0) (N := 5) h 0 rfl rfl 0 (by decide) wu_X0 w_fieldLink_X0_11 (fun _ h9 => h9) rfl dX0_pieces_12 ?_
    refine hv_iload_n h dX0_pieces_15 1 rfl rfl ?_
    refine hv_aald (v := .ref (g (13 + (sol i0)))) h 1 1 rfl rfl (vp_in_nI (by omega) (by decide)) (by rw [nI_clamp (by omega)]; rfl) dX0_pieces_16 ?_
    refine hv_callp (ws' := (hsW g cI cC cols sol oth out num od dn tb (((hf_pc (cols (sol i0)) X).1).1) (((hf_pc (cols (sol i0)) X).1).2.1) (nI ((hf_pc (cols (sol i0)) X).1).2.2) m0 m1 m2 m3 m4)) (v := (hf_pc (cols (sol i0)) X).2) h (hr_Vi (n := 1) (rest := []) h 5 rfl rfl (k_X3_countPieces l D cI cC g cols sol oth out num od dn tb X m0 m1 m2 m3 m4 (sol i0) (hsol i0 hi0)) w_methodLink_X0_99 w_instanceMethod_X3_countPieces w_selects_X3_countPieces w_initialized_X3 w_code_X3_countPieces (by decide +kernel) rfl rfl rfl ⟨by decide, by decide⟩ rfl (Nat.le_of_ble_eq_true rfl) ⟨Nat.zero_le _, Nat.zero_le _⟩ dX0_pieces_17) ?_
    refine hv_goto h 24 dX0_pieces_20 rfl ?_
    exact hv_iret h hr hlk hQ dX0_pieces_24 ⟨(by simp [hc_if, c4, hcli0]), (hf_pc (cols (sol i0)) X).1, rfl⟩
abbrev rX0_hollows : Room := { frames := 6, cells := 0, slots := 0, locals := 139 }
set_option maxHeartbeats 1000000 in
set_option maxRecDepth 100000 in
theorem k_X0_hollows (l : Launch) (D : va_G) (cI cC : ClassId) (g : Nat → Nat) (cols : Nat → Nat → Int32) (sol oth : Nat → Nat) (out : Nat) (num : Nat → Int32) (od dn tb : Int32) (X : HF) (m0 m1 m2 m3 m4 : Nat × va_E) (s0 : Int32) (hsol : ∀ i, i < 6 → sol i < 20) : hsI l yX0_hollows wsX0_hollows rX0_hollows D vwCl (hsT cI cC) [.ref (g 0), .int s0] (hsW g cI cC cols sol oth out num od dn tb X.1 X.2.1 (nI X.2.2) m0 m1 m2 m3 m4) (fun r w => r = hc_if (hx_in s0 6) (-1) (hf_hl (cols (sol s0.toNatClampNeg)) X).2 ∧ ∃ Y : HF, w = (hsW g cI cC cols sol oth out num od dn tb Y.1 Y.2.1 (nI Y.2.2) m0 m1 m2 m3 m4)) := by
  refine hsI.enter (cc := cX0_hollows) (maxL := 2) (ret := (some .int)) (by decide) rfl (Nat.le_of_ble_eq_true rfl) ?_
  intro Pg En Ss Mi Ar Be Me Co AA QQ hQ h hr hlk
  refine hs_lv (lv' := [(0, .ref (g 0)), (1, .int s0)]) rfl ?_
  refine hv_iload_n h dX0_hollows_0 1 rfl rfl ?_
  refine hv_callp (ws' := (hsW g cI cC cols sol oth out num od dn tb X.1 X.2.1 (nI X.2.2) m0 m1 m2 m3 m4)) (v := hx_b (hx_in s0 6)) h (hr_Si (n := 1) (rest := []) h (k_X0_isSolid l D cI cC (hsW g cI cC cols sol oth out num od dn tb X.1 X.2.1 (nI X.2.2) m0 m1 m2 m3 m4) s0) w_methodLink_X0_37 w_static_X0_isSolid w_initialized_X0 w_code_X0_isSolid (by decide +kernel) rfl rfl rfl ⟨by decide, by decide⟩ rfl (Nat.le_of_ble_eq_true rfl) ⟨Nat.zero_le _, Nat.zero_le _⟩ dX0_hollows_1) ?_
  refine hv_bif_eq h 23 dX0_hollows_4 rfl (fun c4 => ?_) (fun c4 => ?_)
  · refine hv_iconst h ((-1)) dX0_hollows_23 (by decide) ?_
    exact hv_iret h hr hlk hQ dX0_hollows_24 ⟨(by simp [hc_if, c4]), X, rfl⟩
  · obtain ⟨i0, hi0, rfl⟩ := hx_in_nat (n := 6) (by decide) c4
    have hcli0 : (nI i0).toNatClampNeg = i0 := nI_clamp (by omega)
    refine hv_aload_n h dX0_hollows_7 0 rfl rfl ?_
    refine hv_get (C := RX0) (T := TX0) (N := 5) h 0 rfl rfl 3 (by decide) wu_X0 w_fieldLink_X0_30 (fun _ h9 => h9) rfl dX0_hollows_8 ?_
    refine hv_aload_n h dX0_hollows_11 0 rfl rfl ?_
    refine hv_get (C := RX0) (T := TX0) (N := 5) h 0 rfl rfl 0 (by decide) wu_X0 w_fieldLink_X0_11 (fun _ h9 => h9) rfl dX0_hollows_12 ?_
    refine hv_iload_n h dX0_hollows_15 1 rfl rfl ?_
    refine hv_aald (v := .ref (g (13 + (sol i0)))) h 1 1 rfl rfl (vp_in_nI (by omega) (by decide)) (by rw [nI_clamp (by omega)]; rfl) dX0_hollows_16 ?_
    refine hv_callp (ws' := (hsW g cI cC cols sol oth out num od dn tb (((hf_hl (cols (sol i0)) X).1).1) (((hf_hl (cols (sol i0)) X).1).2.1) (nI ((hf_hl (cols (sol i0)) X).1).2.2) m0 m1 m2 m3 m4)) (v := (hf_hl (cols (sol i0)) X).2) h (hr_Vi (n := 1) (rest := []) h 5 rfl rfl (k_X3_countHollows l D cI cC g cols sol oth out num od dn tb X m0 m1 m2 m3 m4 (sol i0) (hsol i0 hi0)) w_methodLink_X0_103 w_instanceMethod_X3_countHollows w_selects_X3_countHollows w_initialized_X3 w_code_X3_countHollows (by decide +kernel) rfl rfl rfl ⟨by decide, by decide⟩ rfl (Nat.le_of_ble_eq_true rfl) ⟨Nat.zero_le _, Nat.zero_le _⟩ dX0_hollows_17) ?_
    refine hv_goto h 24 dX0_hollows_20 rfl ?_
    exact hv_iret h hr hlk hQ dX0_hollows_24 ⟨(by simp [hc_if, c4, hcli0]), (hf_hl (cols (sol i0)) X).1, rfl⟩
abbrev rX0_moment : Room := { frames := 4, cells := 0, slots := 0, locals := 92 }
set_option maxHeartbeats 1000000 in
set_option maxRecDepth 100000 in
theorem k_X0_moment (l : Launch) (D : va_G) (cI cC : ClassId) (g : Nat → Nat) (cols : Nat → Nat → Int32) (sol oth : Nat → Nat) (out : Nat) (num : Nat → Int32) (od dn tb : Int32) (lf tk : Nat → Int32) (en : Int32) (m0 m1 m2 m3 m4 : Nat × va_E) (s0 : Int32) (ax : Int32) (hsol : ∀ i, i < 6 → sol i < 20) : hsI l yX0_moment wsX0_moment rX0_moment D vwCl (hsT cI cC) [.ref (g 0), .int s0, .int ax] (hsW g cI cC cols sol oth out num od dn tb lf tk en m0 m1 m2 m3 m4) (fun r w => r = hc_if (hx_in s0 6 && hx_in ax 3) (-1) (hc_mom (cols (sol s0.toNatClampNeg)) ax) ∧ w = (hsW g cI cC cols sol oth out num od dn tb lf tk en m0 m1 m2 m3 m4)) := by
  refine hsI.enter (cc := cX0_moment) (maxL := 5) (ret := (some .int)) (by decide) rfl (Nat.le_of_ble_eq_true rfl) ?_
  intro Pg En Ss Mi Ar Be Me Co AA QQ hQ h hr hlk
  refine hs_lv (lv' := [(0, .ref (g 0)), (1, .int s0), (2, .int ax)]) rfl ?_
  refine hv_iload_n h dX0_moment_0 1 rfl rfl ?_
  refine hv_callp (ws' := (hsW g cI cC cols sol oth out num od dn tb lf tk en m0 m1 m2 m3 m4)) (v := hx_b (hx_in s0 6)) h (hr_Si (n := 1) (rest := []) h (k_X0_isSolid l D cI cC (hsW g cI cC cols sol oth out num od dn tb lf tk en m0 m1 m2 m3 m4) s0) w_methodLink_X0_37 w_static_X0_isSolid w_initialized_X0 w_code_X0_isSolid (by decide +kernel) rfl rfl rfl ⟨by decide, by decide⟩ rfl (Nat.le_of_ble_eq_true rfl) ⟨Nat.zero_le _, Nat.zero_le _⟩ dX0_moment_1) ?_
  refine hv_bif_eq h 14 dX0_moment_4 rfl (fun c4 => ?_) (fun c4 => ?_)
  · refine hv_iconst h ((-1)) dX0_moment_14 (by decide) ?_
    exact hv_iret h hr hlk hQ dX0_moment_15 ⟨(by simp [hc_if, c4]), rfl⟩
  · refine hv_iload_n h dX0_moment_7 2 rfl rfl ?_
    refine hv_callp (ws' := (hsW g cI cC cols sol oth out num od dn tb lf tk en m0 m1 m2 m3 m4)) (v := hx_b (hx_in ax 3)) h (hr_Si (n := 1) (rest := []) h (k_X0_isAxis l D cI cC (hsW g cI cC cols sol oth out num od dn tb lf tk en m0 m1 m2 m3 m4) ax) w_methodLink_X0_57 w_static_X0_isAxis w_initialized_X0 w_code_X0_isAxis (by decide +kernel) rfl rfl rfl ⟨by decide, by decide⟩ rfl (Nat.le_of_ble_eq_true rfl) ⟨Nat.zero_le _, Nat.zero_le _⟩ dX0_moment_8) ?_
    refine hv_bif_ne h 16 dX0_moment_11 rfl (fun c11 => ?_) (fun c11 => ?_)
    · obtain ⟨i0, hi0, rfl⟩ := hx_in_nat (n := 6) (by decide) c4
      have hcli0 : (nI i0).toNatClampNeg = i0 := nI_clamp (by omega)
      refine hv_iconst h (0) dX0_moment_16 (by decide) ?_
      refine hv_istore_n h [(3, .int 0), (0, .ref (g 0)), (1, .int (nI i0)), (2, .int ax)] dX0_moment_17 rfl (by decide) rfl ?_
      refine hv_iconst h (nI 0) dX0_moment_18 (by decide) ?_
      refine hv_istore h [(4, .int (nI 0)), (3, .int 0), (0, .ref (g 0)), (1, .int (nI i0)), (2, .int ax)] dX0_moment_19 (by decide) rfl ?_
      have L21 : ∀ d21 k : Nat, k + d21 = 12 → ∀ (b3 : Int32), b3 = hx_it (fun k n => n + (nI (2 * k + 1)) * hx_layer (cols (sol i0)) ax (nI k)) k 0 → hsV Pg l En rX0_moment Ss Mi Ar Be Me Co QQ 5 D vwCl AA Ss.heap 0 0 21 [(4, .int (nI k)), (3, .int b3), (0, .ref (g 0)), (1, .int (nI i0)), (2, .int ax)] (hsW g cI cC cols sol oth out num od dn tb lf tk en m0 m1 m2 m3 m4) [] := by
        intro d21
        induction d21 with
        | zero =>
          intro k kq21 b3 e_b3
          obtain rfl : k = 12 := by omega
          refine hv_iload h dX0_moment_21 0 rfl ?_
          refine hv_bipush h (nI 12) dX0_moment_23 (by decide) ?_
          refine hv_icmp_ge h 56 dX0_moment_25 rfl (fun c25 => ?_) (fun hc => absurd (Int32.le_refl _) hc)
          refine hv_iload_n h dX0_moment_56 1 rfl rfl ?_
          exact hv_iret h hr hlk hQ dX0_moment_57 ⟨(by rw [e_b3]; simp [hc_if, hc_mom, c4, c11, hcli0]), rfl⟩
        | succ d21 ih21 =>
          intro k kq21 b3 e_b3
          have hlt21 : k < 12 := by omega
          refine hv_iload h dX0_moment_21 0 rfl ?_
          refine hv_bipush h (nI 12) dX0_moment_23 (by decide) ?_
          refine hv_icmp_ge h 56 dX0_moment_25 rfl (fun hc => absurd hc (nI_ge hlt21 (by decide))) (fun c25 => ?_)
          refine hv_iload_n h dX0_moment_28 1 rfl rfl ?_
          refine hv_iconst h (2) dX0_moment_29 (by decide) ?_
          refine hv_iload h dX0_moment_30 0 rfl ?_
          refine hw_imul h (nI (2 * k)) dX0_moment_32 (pk_mul 2 k) ?_
          refine hv_iconst h (1) dX0_moment_33 (by decide) ?_
          refine hw_iadd h (nI ((2 * k) + 1)) dX0_moment_34 (nI_add (2 * k) 1) ?_
          refine hv_aload_n h dX0_moment_35 2 rfl rfl ?_
          refine hv_get (C := RX0) (T := TX0) (N := 5) h 0 rfl rfl 0 (by decide) wu_X0 w_fieldLink_X0_11 (fun _ h9 => h9) rfl dX0_moment_36 ?_
          refine hv_iload_n h dX0_moment_39 3 rfl rfl ?_
          refine hv_aald (v := .ref (g (13 + (sol i0)))) h 1 1 rfl rfl (vp_in_nI (by omega) (by decide)) (by rw [nI_clamp (by omega)]; rfl) dX0_moment_40 ?_
          refine hv_iload_n h dX0_moment_41 4 rfl rfl ?_
          refine hv_iload h dX0_moment_42 0 rfl ?_
          refine hv_callp (ws' := (hsW g cI cC cols sol oth out num od dn tb lf tk en m0 m1 m2 m3 m4)) (v := hx_layer (cols (sol i0)) ax (nI k)) h (hr_Vi (n := 2) (rest := [.int (nI ((2 * k) + 1)), .int b3]) h (13 + (sol i0)) (hsW_cell (hsol i0 hi0)) rfl (k_X1_countLayer l D cI cC (hsW g cI cC cols sol oth out num od dn tb lf tk en m0 m1 m2 m3 m4) (13 + (sol i0)) (33 + (sol i0)) (g (13 + (sol i0))) (g (33 + (sol i0))) (cols (sol i0)) (hsW_cell (hsol i0 hi0)) (hsW_arr (hsol i0 hi0)) ax (nI k)) w_methodLink_X0_106 w_instanceMethod_X1_countLayer w_selects_X1_countLayer w_initialized_X1 w_code_X1_countLayer (by decide +kernel) rfl rfl rfl ⟨by decide, by decide⟩ rfl (Nat.le_of_ble_eq_true rfl) ⟨Nat.zero_le _, Nat.zero_le _⟩ dX0_moment_44) ?_
          refine hv_imul h dX0_moment_47 ?_
          refine hv_iadd h dX0_moment_48 ?_
          refine hv_istore_n h [(3, .int (b3 + ((nI ((2 * k) + 1)) * (hx_layer (cols (sol i0)) ax (nI k))))), (4, .int (nI k)), (0, .ref (g 0)), (1, .int (nI i0)), (2, .int ax)] dX0_moment_49 rfl (by decide) rfl ?_
          refine hv_iinc h (nI (k + 1)) [(4, .int (nI (k + 1))), (3, .int (b3 + ((nI ((2 * k) + 1)) * (hx_layer (cols (sol i0)) ax (nI k))))), (0, .ref (g 0)), (1, .int (nI i0)), (2, .int ax)] dX0_moment_50 1 rfl (hs_inc _) (by decide) rfl ?_
          refine hv_goto h 21 dX0_moment_53 rfl ?_
          exact ih21 (k + 1) (by omega) _ (by rw [hx_it_s, ← e_b3]; try first | assumption | with_reducible rfl | (simp [c4, c11, hcli0, c25]; done))
      exact L21 12 0 (by omega) _ rfl
    · refine hv_iconst h ((-1)) dX0_moment_14 (by decide) ?_
      exact hv_iret h hr hlk hQ dX0_moment_15 ⟨(by simp [hc_if, c4, c11]), rfl⟩
abbrev rX0_extent : Room := { frames := 5, cells := 0, slots := 0, locals := 114 }
set_option maxHeartbeats 1000000 in
set_option maxRecDepth 100000 in
theorem k_X0_extent (l : Launch) (D : va_G) (cI cC : ClassId) (g : Nat → Nat) (cols : Nat → Nat → Int32) (sol oth : Nat → Nat) (out : Nat) (num : Nat → Int32) (od dn tb : Int32) (lf tk : Nat → Int32) (en : Int32) (m0 m1 m2 m3 m4 : Nat × va_E) (s0 : Int32) (ax : Int32) (e0 : Int32) (hsol : ∀ i, i < 6 → sol i < 20) : hsI l yX0_extent wsX0_extent rX0_extent D vwCl (hsT cI cC) [.ref (g 0), .int s0, .int ax, .int e0] (hsW g cI cC cols sol oth out num od dn tb lf tk en m0 m1 m2 m3 m4) (fun r w => r = hc_if (hx_in s0 6 && hx_in ax 3) (-1) (if e0 = 0 then hx_least (cols (sol s0.toNatClampNeg)) ax else if e0 = 1 then hx_great (cols (sol s0.toNatClampNeg)) ax else -1) ∧ w = (hsW g cI cC cols sol oth out num od dn tb lf tk en m0 m1 m2 m3 m4)) := by
  refine hsI.enter (cc := cX0_extent) (maxL := 4) (ret := (some .int)) (by decide) rfl (Nat.le_of_ble_eq_true rfl) ?_
  intro Pg En Ss Mi Ar Be Me Co AA QQ hQ h hr hlk
  refine hs_lv (lv' := [(0, .ref (g 0)), (1, .int s0), (2, .int ax), (3, .int e0)]) rfl ?_
  refine hv_iload_n h dX0_extent_0 1 rfl rfl ?_
  refine hv_callp (ws' := (hsW g cI cC cols sol oth out num od dn tb lf tk en m0 m1 m2 m3 m4)) (v := hx_b (hx_in s0 6)) h (hr_Si (n := 1) (rest := []) h (k_X0_isSolid l D cI cC (hsW g cI cC cols sol oth out num od dn tb lf tk en m0 m1 m2 m3 m4) s0) w_methodLink_X0_37 w_static_X0_isSolid w_initialized_X0 w_code_X0_isSolid (by decide +kernel) rfl rfl rfl ⟨by decide, by decide⟩ rfl (Nat.le_of_ble_eq_true rfl) ⟨Nat.zero_le _, Nat.zero_le _⟩ dX0_extent_1) ?_
  refine hv_bif_eq h 14 dX0_extent_4 rfl (fun c4 => ?_) (fun c4 => ?_)
  · refine hv_iconst h ((-1)) dX0_extent_14 (by decide) ?_
    exact hv_iret h hr hlk hQ dX0_extent_15 ⟨(by simp [hc_if, c4]), rfl⟩
  · refine hv_iload_n h dX0_extent_7 2 rfl rfl ?_
    refine hv_callp (ws' := (hsW g cI cC cols sol oth out num od dn tb lf tk en m0 m1 m2 m3 m4)) (v := hx_b (hx_in ax 3)) h (hr_Si (n := 1) (rest := []) h (k_X0_isAxis l D cI cC (hsW g cI cC cols sol oth out num od dn tb lf tk en m0 m1 m2 m3 m4) ax) w_methodLink_X0_57 w_static_X0_isAxis w_initialized_X0 w_code_X0_isAxis (by decide +kernel) rfl rfl rfl ⟨by decide, by decide⟩ rfl (Nat.le_of_ble_eq_true rfl) ⟨Nat.zero_le _, Nat.zero_le _⟩ dX0_extent_8) ?_
    refine hv_bif_ne h 16 dX0_extent_11 rfl (fun c11 => ?_) (fun c11 => ?_)
    · obtain ⟨i0, hi0, rfl⟩ := hx_in_nat (n := 6) (by decide) c4
      have hcli0 : (nI i0).toNatClampNeg = i0 := nI_clamp (by omega)
      refine hv_iload_n h dX0_extent_16 3 rfl rfl ?_
      refine hv_if_ne h 31 dX0_extent_17 rfl (fun c17 => ?_) (fun c17 => ?_)
      · refine hv_iload_n h dX0_extent_31 3 rfl rfl ?_
        refine hv_iconst h (1) dX0_extent_32 (by decide) ?_
        refine hv_icmp_ne h 49 dX0_extent_33 rfl (fun c33 => ?_) (fun c33 => ?_)
        · refine hv_iconst h ((-1)) dX0_extent_49 (by decide) ?_
          exact hv_iret h hr hlk hQ dX0_extent_50 ⟨(by simp [hc_if, c4, c11, hcli0, c17, c33]), rfl⟩
        · refine hv_aload_n h dX0_extent_36 0 rfl rfl ?_
          refine hv_get (C := RX0) (T := TX0) (N := 5) h 0 rfl rfl 0 (by decide) wu_X0 w_fieldLink_X0_11 (fun _ h9 => h9) rfl dX0_extent_37 ?_
          refine hv_iload_n h dX0_extent_40 1 rfl rfl ?_
          refine hv_aald (v := .ref (g (13 + (sol i0)))) h 1 1 rfl rfl (vp_in_nI (by omega) (by decide)) (by rw [nI_clamp (by omega)]; rfl) dX0_extent_41 ?_
          refine hv_iload_n h dX0_extent_42 2 rfl rfl ?_
          refine hv_callp (ws' := (hsW g cI cC cols sol oth out num od dn tb lf tk en m0 m1 m2 m3 m4)) (v := hx_great (cols (sol i0)) ax) h (hr_Vi (n := 1) (rest := []) h (13 + (sol i0)) (hsW_cell (hsol i0 hi0)) rfl (k_X1_greatestAlong l D cI cC (hsW g cI cC cols sol oth out num od dn tb lf tk en m0 m1 m2 m3 m4) (13 + (sol i0)) (33 + (sol i0)) (g (13 + (sol i0))) (g (33 + (sol i0))) (cols (sol i0)) (hsW_cell (hsol i0 hi0)) (hsW_arr (hsol i0 hi0)) ax) w_methodLink_X0_113 w_instanceMethod_X1_greatestAlong w_selects_X1_greatestAlong w_initialized_X1 w_code_X1_greatestAlong (by decide +kernel) rfl rfl rfl ⟨by decide, by decide⟩ rfl (Nat.le_of_ble_eq_true rfl) ⟨Nat.zero_le _, Nat.zero_le _⟩ dX0_extent_43) ?_
          refine hv_goto h 50 dX0_extent_46 rfl ?_
          exact hv_iret h hr hlk hQ dX0_extent_50 ⟨(by simp [hc_if, c4, c11, hcli0, c17, c33]), rfl⟩
      · refine hv_aload_n h dX0_extent_20 0 rfl rfl ?_
        refine hv_get (C := RX0) (T := TX0) (N := 5) h 0 rfl rfl 0 (by decide) wu_X0 w_fieldLink_X0_11 (fun _ h9 => h9) rfl dX0_extent_21 ?_
        refine hv_iload_n h dX0_extent_24 1 rfl rfl ?_
        refine hv_aald (v := .ref (g (13 + (sol i0)))) h 1 1 rfl rfl (vp_in_nI (by omega) (by decide)) (by rw [nI_clamp (by omega)]; rfl) dX0_extent_25 ?_
        refine hv_iload_n h dX0_extent_26 2 rfl rfl ?_
        refine hv_callp (ws' := (hsW g cI cC cols sol oth out num od dn tb lf tk en m0 m1 m2 m3 m4)) (v := hx_least (cols (sol i0)) ax) h (hr_Vi (n := 1) (rest := []) h (13 + (sol i0)) (hsW_cell (hsol i0 hi0)) rfl (k_X1_leastAlong l D cI cC (hsW g cI cC cols sol oth out num od dn tb lf tk en m0 m1 m2 m3 m4) (13 + (sol i0)) (33 + (sol i0)) (g (13 + (sol i0))) (g (33 + (sol i0))) (cols (sol i0)) (hsW_cell (hsol i0 hi0)) (hsW_arr (hsol i0 hi0)) ax) w_methodLink_X0_110 w_instanceMethod_X1_leastAlong w_selects_X1_leastAlong w_initialized_X1 w_code_X1_leastAlong (by decide +kernel) rfl rfl rfl ⟨by decide, by decide⟩ rfl (Nat.le_of_ble_eq_true rfl) ⟨Nat.zero_le _, Nat.zero_le _⟩ dX0_extent_27) ?_
        exact hv_iret h hr hlk hQ dX0_extent_30 ⟨(by simp [hc_if, c4, c11, hcli0, c17]), rfl⟩
    · refine hv_iconst h ((-1)) dX0_extent_14 (by decide) ?_
      exact hv_iret h hr hlk hQ dX0_extent_15 ⟨(by simp [hc_if, c4, c11]), rfl⟩
abbrev rX0_inside : Room := { frames := 4, cells := 0, slots := 0, locals := 88 }
set_option maxHeartbeats 1000000 in
set_option maxRecDepth 100000 in
theorem k_X0_inside (l : Launch) (D : va_G) (cI cC : ClassId) (g : Nat → Nat) (cols : Nat → Nat → Int32) (sol oth : Nat → Nat) (out : Nat) (num : Nat → Int32) (od dn tb : Int32) (lf tk : Nat → Int32) (en : Int32) (m0 m1 m2 m3 m4 : Nat × va_E) (s0 : Int32) (x0 : Int32) (y0 : Int32) (z0 : Int32) (hsol : ∀ i, i < 6 → sol i < 20) : hsI l yX0_inside wsX0_inside rX0_inside D vwCl (hsT cI cC) [.ref (g 0), .int s0, .int x0, .int y0, .int z0] (hsW g cI cC cols sol oth out num od dn tb lf tk en m0 m1 m2 m3 m4) (fun r w => r = hc_if (hx_in s0 6 && (hx_pl x0 && (hx_pl y0 && hx_pl z0))) (-9) (if hx_ar (cols (sol s0.toNatClampNeg)) x0 y0 z0 = 0 then -1 else if hx_ar (cols (sol s0.toNatClampNeg)) x0 y0 z0 = 8 then 1 else 0) ∧ w = (hsW g cI cC cols sol oth out num od dn tb lf tk en m0 m1 m2 m3 m4)) := by
  refine hsI.enter (cc := cX0_inside) (maxL := 6) (ret := (some .int)) (by decide) rfl (Nat.le_of_ble_eq_true rfl) ?_
  intro Pg En Ss Mi Ar Be Me Co AA QQ hQ h hr hlk
  refine hs_lv (lv' := [(0, .ref (g 0)), (1, .int s0), (2, .int x0), (3, .int y0), (4, .int z0)]) rfl ?_
  refine hv_iload_n h dX0_inside_0 1 rfl rfl ?_
  refine hv_callp (ws' := (hsW g cI cC cols sol oth out num od dn tb lf tk en m0 m1 m2 m3 m4)) (v := hx_b (hx_in s0 6)) h (hr_Si (n := 1) (rest := []) h (k_X0_isSolid l D cI cC (hsW g cI cC cols sol oth out num od dn tb lf tk en m0 m1 m2 m3 m4) s0) w_methodLink_X0_37 w_static_X0_isSolid w_initialized_X0 w_code_X0_isSolid (by decide +kernel) rfl rfl rfl ⟨by decide, by decide⟩ rfl (Nat.le_of_ble_eq_true rfl) ⟨Nat.zero_le _, Nat.zero_le _⟩ dX0_inside_1) ?_
  refine hv_bif_eq h 29 dX0_inside_4 rfl (fun c4 => ?_) (fun c4 => ?_)
  · refine hv_bipush h ((-9)) dX0_inside_29 (by decide) ?_
    exact hv_iret h hr hlk hQ dX0_inside_31 ⟨(by simp [hc_if, c4]), rfl⟩
  · refine hv_iload_n h dX0_inside_7 2 rfl rfl ?_
    refine hv_callp (ws' := (hsW g cI cC cols sol oth out num od dn tb lf tk en m0 m1 m2 m3 m4)) (v := hx_b (hx_pl x0)) h (hr_Si (n := 1) (rest := []) h (k_X0_isPlane l D cI cC (hsW g cI cC cols sol oth out num od dn tb lf tk en m0 m1 m2 m3 m4) x0) w_methodLink_X0_116 w_static_X0_isPlane w_initialized_X0 w_code_X0_isPlane (by decide +kernel) rfl rfl rfl ⟨by decide, by decide⟩ rfl (Nat.le_of_ble_eq_true rfl) ⟨Nat.zero_le _, Nat.zero_le _⟩ dX0_inside_8) ?_
    refine hv_bif_eq h 29 dX0_inside_11 rfl (fun c11 => ?_) (fun c11 => ?_)
    · refine hv_bipush h ((-9)) dX0_inside_29 (by decide) ?_
      exact hv_iret h hr hlk hQ dX0_inside_31 ⟨(by simp [hc_if, c4, c11]), rfl⟩
    · refine hv_iload_n h dX0_inside_14 3 rfl rfl ?_
      refine hv_callp (ws' := (hsW g cI cC cols sol oth out num od dn tb lf tk en m0 m1 m2 m3 m4)) (v := hx_b (hx_pl y0)) h (hr_Si (n := 1) (rest := []) h (k_X0_isPlane l D cI cC (hsW g cI cC cols sol oth out num od dn tb lf tk en m0 m1 m2 m3 m4) y0) w_methodLink_X0_116 w_static_X0_isPlane w_initialized_X0 w_code_X0_isPlane (by decide +kernel) rfl rfl rfl ⟨by decide, by decide⟩ rfl (Nat.le_of_ble_eq_true rfl) ⟨Nat.zero_le _, Nat.zero_le _⟩ dX0_inside_15) ?_
      refine hv_bif_eq h 29 dX0_inside_18 rfl (fun c18 => ?_) (fun c18 => ?_)
      · refine hv_bipush h ((-9)) dX0_inside_29 (by decide) ?_
        exact hv_iret h hr hlk hQ dX0_inside_31 ⟨(by simp [hc_if, c4, c11, c18]), rfl⟩
      · refine hv_iload h dX0_inside_21 4 rfl ?_
        refine hv_callp (ws' := (hsW g cI cC cols sol oth out num od dn tb lf tk en m0 m1 m2 m3 m4)) (v := hx_b (hx_pl z0)) h (hr_Si (n := 1) (rest := []) h (k_X0_isPlane l D cI cC (hsW g cI cC cols sol oth out num od dn tb lf tk en m0 m1 m2 m3 m4) z0) w_methodLink_X0_116 w_static_X0_isPlane w_initialized_X0 w_code_X0_isPlane (by decide +kernel) rfl rfl rfl ⟨by decide, by decide⟩ rfl (Nat.le_of_ble_eq_true rfl) ⟨Nat.zero_le _, Nat.zero_le _⟩ dX0_inside_23) ?_
        refine hv_bif_ne h 32 dX0_inside_26 rfl (fun c26 => ?_) (fun c26 => ?_)
        · obtain ⟨i0, hi0, rfl⟩ := hx_in_nat (n := 6) (by decide) c4
          have hcli0 : (nI i0).toNatClampNeg = i0 := nI_clamp (by omega)
          refine hv_aload_n h dX0_inside_32 0 rfl rfl ?_
          refine hv_get (C := RX0) (T := TX0) (N := 5) h 0 rfl rfl 0 (by decide) wu_X0 w_fieldLink_X0_11 (fun _ h9 => h9) rfl dX0_inside_33 ?_
          refine hv_iload_n h dX0_inside_36 1 rfl rfl ?_
          refine hv_aald (v := .ref (g (13 + (sol i0)))) h 1 1 rfl rfl (vp_in_nI (by omega) (by decide)) (by rw [nI_clamp (by omega)]; rfl) dX0_inside_37 ?_
          refine hv_iload_n h dX0_inside_38 2 rfl rfl ?_
          refine hv_iload_n h dX0_inside_39 3 rfl rfl ?_
          refine hv_iload h dX0_inside_40 4 rfl ?_
          refine hv_callp (ws' := (hsW g cI cC cols sol oth out num od dn tb lf tk en m0 m1 m2 m3 m4)) (v := hx_ar (cols (sol i0)) x0 y0 z0) h (hr_Vi (n := 3) (rest := []) h (13 + (sol i0)) (hsW_cell (hsol i0 hi0)) rfl (k_X1_countAround l D cI cC (hsW g cI cC cols sol oth out num od dn tb lf tk en m0 m1 m2 m3 m4) (13 + (sol i0)) (33 + (sol i0)) (g (13 + (sol i0))) (g (33 + (sol i0))) (cols (sol i0)) (hsW_cell (hsol i0 hi0)) (hsW_arr (hsol i0 hi0)) x0 y0 z0) w_methodLink_X0_119 w_instanceMethod_X1_countAround w_selects_X1_countAround w_initialized_X1 w_code_X1_countAround (by decide +kernel) rfl rfl rfl ⟨by decide, by decide⟩ rfl (Nat.le_of_ble_eq_true rfl) ⟨Nat.zero_le _, Nat.zero_le _⟩ dX0_inside_42) ?_
          refine hv_istore h [(5, .int (hx_ar (cols (sol i0)) x0 y0 z0)), (0, .ref (g 0)), (1, .int (nI i0)), (2, .int x0), (3, .int y0), (4, .int z0)] dX0_inside_45 (by decide) rfl ?_
          refine hv_iload h dX0_inside_47 0 rfl ?_
          refine hv_if_ne h 54 dX0_inside_49 rfl (fun c49 => ?_) (fun c49 => ?_)
          · refine hv_iload h dX0_inside_54 0 rfl ?_
            refine hv_bipush h (8) dX0_inside_56 (by decide) ?_
            refine hv_icmp_ne h 65 dX0_inside_58 rfl (fun c58 => ?_) (fun c58 => ?_)
            · refine hv_iconst h (0) dX0_inside_65 (by decide) ?_
              exact hv_iret h hr hlk hQ dX0_inside_66 ⟨(by simp [hc_if, c4, c11, c18, c26, hcli0, c49, c58]), rfl⟩
            · refine hv_iconst h (1) dX0_inside_61 (by decide) ?_
              refine hv_goto h 66 dX0_inside_62 rfl ?_
              exact hv_iret h hr hlk hQ dX0_inside_66 ⟨(by simp [hc_if, c4, c11, c18, c26, hcli0, c49, c58]), rfl⟩
          · refine hv_iconst h ((-1)) dX0_inside_52 (by decide) ?_
            exact hv_iret h hr hlk hQ dX0_inside_53 ⟨(by simp [hc_if, c4, c11, c18, c26, hcli0, c49]), rfl⟩
        · refine hv_bipush h ((-9)) dX0_inside_29 (by decide) ?_
          exact hv_iret h hr hlk hQ dX0_inside_31 ⟨(by simp [hc_if, c4, c11, c18, c26]), rfl⟩
abbrev rX0_section : Room := { frames := 4, cells := 0, slots := 0, locals := 92 }
set_option maxHeartbeats 1000000 in
set_option maxRecDepth 100000 in
theorem k_X0_section (l : Launch) (D : va_G) (cI cC : ClassId) (g : Nat → Nat) (cols : Nat → Nat → Int32) (sol oth : Nat → Nat) (out : Nat) (num : Nat → Int32) (od dn tb : Int32) (lf tk : Nat → Int32) (en : Int32) (m0 m1 m2 m3 m4 : Nat × va_E) (s0 : Int32) (ax : Int32) (w0 : Int32) (hsol : ∀ i, i < 6 → sol i < 20) : hsI l yX0_section wsX0_section rX0_section D vwCl (hsT cI cC) [.ref (g 0), .int s0, .int ax, .int w0] (hsW g cI cC cols sol oth out num od dn tb lf tk en m0 m1 m2 m3 m4) (fun r w => r = hc_if (hx_in s0 6 && (hx_in ax 3 && hx_in w0 12)) (-1) (hx_layer (cols (sol s0.toNatClampNeg)) ax w0) ∧ w = (hsW g cI cC cols sol oth out num od dn tb lf tk en m0 m1 m2 m3 m4)) := by
  refine hsI.enter (cc := cX0_section) (maxL := 4) (ret := (some .int)) (by decide) rfl (Nat.le_of_ble_eq_true rfl) ?_
  intro Pg En Ss Mi Ar Be Me Co AA QQ hQ h hr hlk
  refine hs_lv (lv' := [(0, .ref (g 0)), (1, .int s0), (2, .int ax), (3, .int w0)]) rfl ?_
  refine hv_iload_n h dX0_section_0 1 rfl rfl ?_
  refine hv_callp (ws' := (hsW g cI cC cols sol oth out num od dn tb lf tk en m0 m1 m2 m3 m4)) (v := hx_b (hx_in s0 6)) h (hr_Si (n := 1) (rest := []) h (k_X0_isSolid l D cI cC (hsW g cI cC cols sol oth out num od dn tb lf tk en m0 m1 m2 m3 m4) s0) w_methodLink_X0_37 w_static_X0_isSolid w_initialized_X0 w_code_X0_isSolid (by decide +kernel) rfl rfl rfl ⟨by decide, by decide⟩ rfl (Nat.le_of_ble_eq_true rfl) ⟨Nat.zero_le _, Nat.zero_le _⟩ dX0_section_1) ?_
  refine hv_bif_eq h 21 dX0_section_4 rfl (fun c4 => ?_) (fun c4 => ?_)
  · refine hv_iconst h ((-1)) dX0_section_21 (by decide) ?_
    exact hv_iret h hr hlk hQ dX0_section_22 ⟨(by simp [hc_if, c4]), rfl⟩
  · refine hv_iload_n h dX0_section_7 2 rfl rfl ?_
    refine hv_callp (ws' := (hsW g cI cC cols sol oth out num od dn tb lf tk en m0 m1 m2 m3 m4)) (v := hx_b (hx_in ax 3)) h (hr_Si (n := 1) (rest := []) h (k_X0_isAxis l D cI cC (hsW g cI cC cols sol oth out num od dn tb lf tk en m0 m1 m2 m3 m4) ax) w_methodLink_X0_57 w_static_X0_isAxis w_initialized_X0 w_code_X0_isAxis (by decide +kernel) rfl rfl rfl ⟨by decide, by decide⟩ rfl (Nat.le_of_ble_eq_true rfl) ⟨Nat.zero_le _, Nat.zero_le _⟩ dX0_section_8) ?_
    refine hv_bif_eq h 21 dX0_section_11 rfl (fun c11 => ?_) (fun c11 => ?_)
    · refine hv_iconst h ((-1)) dX0_section_21 (by decide) ?_
      exact hv_iret h hr hlk hQ dX0_section_22 ⟨(by simp [hc_if, c4, c11]), rfl⟩
    · refine hv_iload_n h dX0_section_14 3 rfl rfl ?_
      refine hv_callp (ws' := (hsW g cI cC cols sol oth out num od dn tb lf tk en m0 m1 m2 m3 m4)) (v := hx_b (hx_in w0 12)) h (hr_Si (n := 1) (rest := []) h (k_X0_isCoordinate l D cI cC (hsW g cI cC cols sol oth out num od dn tb lf tk en m0 m1 m2 m3 m4) w0) w_methodLink_X0_75 w_static_X0_isCoordinate w_initialized_X0 w_code_X0_isCoordinate (by decide +kernel) rfl rfl rfl ⟨by decide, by decide⟩ rfl (Nat.le_of_ble_eq_true rfl) ⟨Nat.zero_le _, Nat.zero_le _⟩ dX0_section_15) ?_
      refine hv_bif_ne h 23 dX0_section_18 rfl (fun c18 => ?_) (fun c18 => ?_)
      · obtain ⟨i0, hi0, rfl⟩ := hx_in_nat (n := 6) (by decide) c4
        have hcli0 : (nI i0).toNatClampNeg = i0 := nI_clamp (by omega)
        refine hv_aload_n h dX0_section_23 0 rfl rfl ?_
        refine hv_get (C := RX0) (T := TX0) (N := 5) h 0 rfl rfl 0 (by decide) wu_X0 w_fieldLink_X0_11 (fun _ h9 => h9) rfl dX0_section_24 ?_
        refine hv_iload_n h dX0_section_27 1 rfl rfl ?_
        refine hv_aald (v := .ref (g (13 + (sol i0)))) h 1 1 rfl rfl (vp_in_nI (by omega) (by decide)) (by rw [nI_clamp (by omega)]; rfl) dX0_section_28 ?_
        refine hv_iload_n h dX0_section_29 2 rfl rfl ?_
        refine hv_iload_n h dX0_section_30 3 rfl rfl ?_
        refine hv_callp (ws' := (hsW g cI cC cols sol oth out num od dn tb lf tk en m0 m1 m2 m3 m4)) (v := hx_layer (cols (sol i0)) ax w0) h (hr_Vi (n := 2) (rest := []) h (13 + (sol i0)) (hsW_cell (hsol i0 hi0)) rfl (k_X1_countLayer l D cI cC (hsW g cI cC cols sol oth out num od dn tb lf tk en m0 m1 m2 m3 m4) (13 + (sol i0)) (33 + (sol i0)) (g (13 + (sol i0))) (g (33 + (sol i0))) (cols (sol i0)) (hsW_cell (hsol i0 hi0)) (hsW_arr (hsol i0 hi0)) ax w0) w_methodLink_X0_106 w_instanceMethod_X1_countLayer w_selects_X1_countLayer w_initialized_X1 w_code_X1_countLayer (by decide +kernel) rfl rfl rfl ⟨by decide, by decide⟩ rfl (Nat.le_of_ble_eq_true rfl) ⟨Nat.zero_le _, Nat.zero_le _⟩ dX0_section_31) ?_
        exact hv_iret h hr hlk hQ dX0_section_34 ⟨(by simp [hc_if, c4, c11, c18, hcli0]), rfl⟩
      · refine hv_iconst h ((-1)) dX0_section_21 (by decide) ?_
        exact hv_iret h hr hlk hQ dX0_section_22 ⟨(by simp [hc_if, c4, c11, c18]), rfl⟩
abbrev rX0_same : Room := { frames := 1, cells := 0, slots := 0, locals := 22 }
set_option maxHeartbeats 1000000 in
set_option maxRecDepth 100000 in
theorem k_X0_same (l : Launch) (D : va_G) (cI cC : ClassId) (g : Nat → Nat) (cols : Nat → Nat → Int32) (sol oth : Nat → Nat) (out : Nat) (num : Nat → Int32) (od dn tb : Int32) (lf tk : Nat → Int32) (en : Int32) (m0 m1 m2 m3 m4 : Nat × va_E) (s0 : Int32) (t0 : Int32) (hsol : ∀ i, i < 6 → sol i < 20) : hsI l yX0_same wsX0_same rX0_same D vwCl (hsT cI cC) [.ref (g 0), .int s0, .int t0] (hsW g cI cC cols sol oth out num od dn tb lf tk en m0 m1 m2 m3 m4) (fun r w => r = hx_b (hx_in s0 6 && (hx_in t0 6 && hx_eq (cols (sol s0.toNatClampNeg)) (cols (sol t0.toNatClampNeg)) 144)) ∧ w = (hsW g cI cC cols sol oth out num od dn tb lf tk en m0 m1 m2 m3 m4)) := by
  refine hsI.enter (cc := cX0_same) (maxL := 3) (ret := (some .boolean)) (by decide) rfl (Nat.le_of_ble_eq_true rfl) ?_
  intro Pg En Ss Mi Ar Be Me Co AA QQ hQ h hr hlk
  refine hs_lv (lv' := [(0, .ref (g 0)), (1, .int s0), (2, .int t0)]) rfl ?_
  refine hv_iload_n h dX0_same_0 1 rfl rfl ?_
  refine hv_callp (ws' := (hsW g cI cC cols sol oth out num od dn tb lf tk en m0 m1 m2 m3 m4)) (v := hx_b (hx_in s0 6)) h (hr_Si (n := 1) (rest := []) h (k_X0_isSolid l D cI cC (hsW g cI cC cols sol oth out num od dn tb lf tk en m0 m1 m2 m3 m4) s0) w_methodLink_X0_37 w_static_X0_isSolid w_initialized_X0 w_code_X0_isSolid (by decide +kernel) rfl rfl rfl ⟨by decide, by decide⟩ rfl (Nat.le_of_ble_eq_true rfl) ⟨Nat.zero_le _, Nat.zero_le _⟩ dX0_same_1) ?_
  refine hv_bif_eq h 36 dX0_same_4 rfl (fun c4 => ?_) (fun c4 => ?_)
  · refine hv_iconst h (0) dX0_same_36 (by decide) ?_
    exact hv_zret h hr hlk hQ dX0_same_37 rfl ⟨(by simp [hx_b, c4]), rfl⟩
  · refine hv_iload_n h dX0_same_7 2 rfl rfl ?_
    refine hv_callp (ws' := (hsW g cI cC cols sol oth out num od dn tb lf tk en m0 m1 m2 m3 m4)) (v := hx_b (hx_in t0 6)) h (hr_Si (n := 1) (rest := []) h (k_X0_isSolid l D cI cC (hsW g cI cC cols sol oth out num od dn tb lf tk en m0 m1 m2 m3 m4) t0) w_methodLink_X0_37 w_static_X0_isSolid w_initialized_X0 w_code_X0_isSolid (by decide +kernel) rfl rfl rfl ⟨by decide, by decide⟩ rfl (Nat.le_of_ble_eq_true rfl) ⟨Nat.zero_le _, Nat.zero_le _⟩ dX0_same_8) ?_
    refine hv_bif_eq h 36 dX0_same_11 rfl (fun c11 => ?_) (fun c11 => ?_)
    · refine hv_iconst h (0) dX0_same_36 (by decide) ?_
      exact hv_zret h hr hlk hQ dX0_same_37 rfl ⟨(by simp [hx_b, c4, c11]), rfl⟩
    · obtain ⟨i0, hi0, rfl⟩ := hx_in_nat (n := 6) (by decide) c4
      have hcli0 : (nI i0).toNatClampNeg = i0 := nI_clamp (by omega)
      obtain ⟨i1, hi1, rfl⟩ := hx_in_nat (n := 6) (by decide) c11
      have hcli1 : (nI i1).toNatClampNeg = i1 := nI_clamp (by omega)
      refine hv_aload_n h dX0_same_14 0 rfl rfl ?_
      refine hv_get (C := RX0) (T := TX0) (N := 5) h 0 rfl rfl 0 (by decide) wu_X0 w_fieldLink_X0_11 (fun _ h9 => h9) rfl dX0_same_15 ?_
      refine hv_iload_n h dX0_same_18 1 rfl rfl ?_
      refine hv_aald (v := .ref (g (13 + (sol i0)))) h 1 1 rfl rfl (vp_in_nI (by omega) (by decide)) (by rw [nI_clamp (by omega)]; rfl) dX0_same_19 ?_
      refine hv_aload_n h dX0_same_20 0 rfl rfl ?_
      refine hv_get (C := RX0) (T := TX0) (N := 5) h 0 rfl rfl 0 (by decide) wu_X0 w_fieldLink_X0_11 (fun _ h9 => h9) rfl dX0_same_21 ?_
      refine hv_iload_n h dX0_same_24 2 rfl rfl ?_
      refine hv_aald (v := .ref (g (13 + (sol i1)))) h 1 1 rfl rfl (vp_in_nI (by omega) (by decide)) (by rw [nI_clamp (by omega)]; rfl) dX0_same_25 ?_
      refine hv_callp (ws' := (hsW g cI cC cols sol oth out num od dn tb lf tk en m0 m1 m2 m3 m4)) (v := hx_b (hx_eq (cols (sol i0)) (cols (sol i1)) 144)) h (hr_Vi (n := 1) (rest := []) h (13 + (sol i0)) (hsW_cell (hsol i0 hi0)) rfl (k_X1_hasCellsOf l D cI cC (hsW g cI cC cols sol oth out num od dn tb lf tk en m0 m1 m2 m3 m4) (13 + (sol i0)) (33 + (sol i0)) (g (13 + (sol i0))) (g (33 + (sol i0))) (cols (sol i0)) (hsW_cell (hsol i0 hi0)) (hsW_arr (hsol i0 hi0)) (13 + (sol i1)) (33 + (sol i1)) (g (13 + (sol i1))) (g (33 + (sol i1))) (cols (sol i1)) (hsW_cell (hsol i1 hi1)) (hsW_arr (hsol i1 hi1))) w_methodLink_X0_123 w_instanceMethod_X1_hasCellsOf w_selects_X1_hasCellsOf w_initialized_X1 w_code_X1_hasCellsOf (by decide +kernel) rfl rfl rfl ⟨by decide, by decide⟩ rfl (Nat.le_of_ble_eq_true rfl) ⟨Nat.zero_le _, Nat.zero_le _⟩ dX0_same_26) ?_
      refine hv_bif_eq h 36 dX0_same_29 rfl (fun c29 => ?_) (fun c29 => ?_)
      · refine hv_iconst h (0) dX0_same_36 (by decide) ?_
        exact hv_zret h hr hlk hQ dX0_same_37 rfl ⟨(by simp [hx_b, c4, c11, hcli0, hcli1, c29]), rfl⟩
      · refine hv_iconst h (1) dX0_same_32 (by decide) ?_
        refine hv_goto h 37 dX0_same_33 rfl ?_
        exact hv_zret h hr hlk hQ dX0_same_37 rfl ⟨(by simp [hx_b, c4, c11, hcli0, hcli1, c29]), rfl⟩
abbrev rX0_depth : Room := { frames := 3, cells := 0, slots := 0, locals := 68 }
set_option maxHeartbeats 1000000 in
set_option maxRecDepth 100000 in
theorem k_X0_depth (l : Launch) (D : va_G) (cI cC : ClassId) (g : Nat → Nat) (cols : Nat → Nat → Int32) (sol oth : Nat → Nat) (out : Nat) (num : Nat → Int32) (od dn tb : Int32) (lf tk : Nat → Int32) (en : Int32) (m0 m1 m2 m3 m4 : Nat × va_E) (s0 : Int32) (ax : Int32) (b0 : Int32) (u0 : Int32) (v0 : Int32) (hsol : ∀ i, i < 6 → sol i < 20) : hsI l yX0_depth wsX0_depth rX0_depth D vwCl (hsT cI cC) [.ref (g 0), .int s0, .int ax, .int b0, .int u0, .int v0] (hsW g cI cC cols sol oth out num od dn tb lf tk en m0 m1 m2 m3 m4) (fun r w => r = hc_if (hx_in s0 6 && (hx_in ax 3 && (hx_in u0 12 && hx_in v0 12))) (-1) (hx_dep (hx_al (cols (sol s0.toNatClampNeg)) ax u0 v0) b0) ∧ w = (hsW g cI cC cols sol oth out num od dn tb lf tk en m0 m1 m2 m3 m4)) := by
  refine hsI.enter (cc := cX0_depth) (maxL := 6) (ret := (some .int)) (by decide) rfl (Nat.le_of_ble_eq_true rfl) ?_
  intro Pg En Ss Mi Ar Be Me Co AA QQ hQ h hr hlk
  refine hs_lv (lv' := [(0, .ref (g 0)), (1, .int s0), (2, .int ax), (3, .int b0), (4, .int u0), (5, .int v0)]) rfl ?_
  refine hv_iload_n h dX0_depth_0 1 rfl rfl ?_
  refine hv_callp (ws' := (hsW g cI cC cols sol oth out num od dn tb lf tk en m0 m1 m2 m3 m4)) (v := hx_b (hx_in s0 6)) h (hr_Si (n := 1) (rest := []) h (k_X0_isSolid l D cI cC (hsW g cI cC cols sol oth out num od dn tb lf tk en m0 m1 m2 m3 m4) s0) w_methodLink_X0_37 w_static_X0_isSolid w_initialized_X0 w_code_X0_isSolid (by decide +kernel) rfl rfl rfl ⟨by decide, by decide⟩ rfl (Nat.le_of_ble_eq_true rfl) ⟨Nat.zero_le _, Nat.zero_le _⟩ dX0_depth_1) ?_
  refine hv_bif_eq h 30 dX0_depth_4 rfl (fun c4 => ?_) (fun c4 => ?_)
  · refine hv_iconst h ((-1)) dX0_depth_30 (by decide) ?_
    exact hv_iret h hr hlk hQ dX0_depth_31 ⟨(by simp [hc_if, c4]), rfl⟩
  · refine hv_iload_n h dX0_depth_7 2 rfl rfl ?_
    refine hv_callp (ws' := (hsW g cI cC cols sol oth out num od dn tb lf tk en m0 m1 m2 m3 m4)) (v := hx_b (hx_in ax 3)) h (hr_Si (n := 1) (rest := []) h (k_X0_isAxis l D cI cC (hsW g cI cC cols sol oth out num od dn tb lf tk en m0 m1 m2 m3 m4) ax) w_methodLink_X0_57 w_static_X0_isAxis w_initialized_X0 w_code_X0_isAxis (by decide +kernel) rfl rfl rfl ⟨by decide, by decide⟩ rfl (Nat.le_of_ble_eq_true rfl) ⟨Nat.zero_le _, Nat.zero_le _⟩ dX0_depth_8) ?_
    refine hv_bif_eq h 30 dX0_depth_11 rfl (fun c11 => ?_) (fun c11 => ?_)
    · refine hv_iconst h ((-1)) dX0_depth_30 (by decide) ?_
      exact hv_iret h hr hlk hQ dX0_depth_31 ⟨(by simp [hc_if, c4, c11]), rfl⟩
    · refine hv_iload h dX0_depth_14 4 rfl ?_
      refine hv_callp (ws' := (hsW g cI cC cols sol oth out num od dn tb lf tk en m0 m1 m2 m3 m4)) (v := hx_b (hx_in u0 12)) h (hr_Si (n := 1) (rest := []) h (k_X0_isCoordinate l D cI cC (hsW g cI cC cols sol oth out num od dn tb lf tk en m0 m1 m2 m3 m4) u0) w_methodLink_X0_75 w_static_X0_isCoordinate w_initialized_X0 w_code_X0_isCoordinate (by decide +kernel) rfl rfl rfl ⟨by decide, by decide⟩ rfl (Nat.le_of_ble_eq_true rfl) ⟨Nat.zero_le _, Nat.zero_le _⟩ dX0_depth_16) ?_
      refine hv_bif_eq h 30 dX0_depth_19 rfl (fun c19 => ?_) (fun c19 => ?_)
      · refine hv_iconst h ((-1)) dX0_depth_30 (by decide) ?_
        exact hv_iret h hr hlk hQ dX0_depth_31 ⟨(by simp [hc_if, c4, c11, c19]), rfl⟩
      · refine hv_iload h dX0_depth_22 5 rfl ?_
        refine hv_callp (ws' := (hsW g cI cC cols sol oth out num od dn tb lf tk en m0 m1 m2 m3 m4)) (v := hx_b (hx_in v0 12)) h (hr_Si (n := 1) (rest := []) h (k_X0_isCoordinate l D cI cC (hsW g cI cC cols sol oth out num od dn tb lf tk en m0 m1 m2 m3 m4) v0) w_methodLink_X0_75 w_static_X0_isCoordinate w_initialized_X0 w_code_X0_isCoordinate (by decide +kernel) rfl rfl rfl ⟨by decide, by decide⟩ rfl (Nat.le_of_ble_eq_true rfl) ⟨Nat.zero_le _, Nat.zero_le _⟩ dX0_depth_24) ?_
        refine hv_bif_ne h 32 dX0_depth_27 rfl (fun c27 => ?_) (fun c27 => ?_)
        · obtain ⟨i0, hi0, rfl⟩ := hx_in_nat (n := 6) (by decide) c4
          have hcli0 : (nI i0).toNatClampNeg = i0 := nI_clamp (by omega)
          refine hv_aload_n h dX0_depth_32 0 rfl rfl ?_
          refine hv_get (C := RX0) (T := TX0) (N := 5) h 0 rfl rfl 0 (by decide) wu_X0 w_fieldLink_X0_11 (fun _ h9 => h9) rfl dX0_depth_33 ?_
          refine hv_iload_n h dX0_depth_36 1 rfl rfl ?_
          refine hv_aald (v := .ref (g (13 + (sol i0)))) h 1 1 rfl rfl (vp_in_nI (by omega) (by decide)) (by rw [nI_clamp (by omega)]; rfl) dX0_depth_37 ?_
          refine hv_iload_n h dX0_depth_38 2 rfl rfl ?_
          refine hv_iload h dX0_depth_39 4 rfl ?_
          refine hv_iload h dX0_depth_41 5 rfl ?_
          refine hv_callp (ws' := (hsW g cI cC cols sol oth out num od dn tb lf tk en m0 m1 m2 m3 m4)) (v := hx_al (cols (sol i0)) ax u0 v0) h (hr_Vi (n := 3) (rest := []) h (13 + (sol i0)) (hsW_cell (hsol i0 hi0)) rfl (k_X1_columnAlong l D cI cC (hsW g cI cC cols sol oth out num od dn tb lf tk en m0 m1 m2 m3 m4) (13 + (sol i0)) (33 + (sol i0)) (g (13 + (sol i0))) (g (33 + (sol i0))) (cols (sol i0)) (hsW_cell (hsol i0 hi0)) (hsW_arr (hsol i0 hi0)) ax u0 v0) w_methodLink_X0_127 w_instanceMethod_X1_columnAlong w_selects_X1_columnAlong w_initialized_X1 w_code_X1_columnAlong (by decide +kernel) rfl rfl rfl ⟨by decide, by decide⟩ rfl (Nat.le_of_ble_eq_true rfl) ⟨Nat.zero_le _, Nat.zero_le _⟩ dX0_depth_43) ?_
          refine hv_iload_n h dX0_depth_46 3 rfl rfl ?_
          refine hv_callp (ws' := (hsW g cI cC cols sol oth out num od dn tb lf tk en m0 m1 m2 m3 m4)) (v := hx_dep (hx_al (cols (sol i0)) ax u0 v0) b0) h (hr_Si (n := 2) (rest := []) h (k_X0_depthOf l D cI cC (hsW g cI cC cols sol oth out num od dn tb lf tk en m0 m1 m2 m3 m4) (hx_al (cols (sol i0)) ax u0 v0) b0) w_methodLink_X0_130 w_static_X0_depthOf w_initialized_X0 w_code_X0_depthOf (by decide +kernel) rfl rfl rfl ⟨by decide, by decide⟩ rfl (Nat.le_of_ble_eq_true rfl) ⟨Nat.zero_le _, Nat.zero_le _⟩ dX0_depth_47) ?_
          exact hv_iret h hr hlk hQ dX0_depth_50 ⟨(by simp [hc_if, c4, c11, c19, c27, hcli0]), rfl⟩
        · refine hv_iconst h ((-1)) dX0_depth_30 (by decide) ?_
          exact hv_iret h hr hlk hQ dX0_depth_31 ⟨(by simp [hc_if, c4, c11, c19, c27]), rfl⟩
abbrev rX0_stroke : Room := { frames := 3, cells := 0, slots := 0, locals := 68 }
set_option maxHeartbeats 1000000 in
set_option maxRecDepth 100000 in
theorem k_X0_stroke (l : Launch) (D : va_G) (cI cC : ClassId) (g : Nat → Nat) (cols : Nat → Nat → Int32) (sol oth : Nat → Nat) (out : Nat) (num : Nat → Int32) (od dn tb : Int32) (lf tk : Nat → Int32) (en : Int32) (m0 m1 m2 m3 m4 : Nat × va_E) (s0 : Int32) (ax : Int32) (b0 : Int32) (u0 : Int32) (v0 : Int32) (x0 : Int32) (hsol : ∀ i, i < 6 → sol i < 20) : hsI l yX0_stroke wsX0_stroke rX0_stroke D vwCl (hsT cI cC) [.ref (g 0), .int s0, .int ax, .int b0, .int u0, .int v0, .int x0] (hsW g cI cC cols sol oth out num od dn tb lf tk en m0 m1 m2 m3 m4) (fun r w => r = hc_if (hx_in s0 6 && (hx_in ax 3 && hx_spl u0 v0 x0)) (-1) (hx_sb (hx_al (cols (sol s0.toNatClampNeg)) ax ((u0 - 1) + x0) (v0 - x0)) (hx_al (cols (sol s0.toNatClampNeg)) ax u0 v0) b0) ∧ w = (hsW g cI cC cols sol oth out num od dn tb lf tk en m0 m1 m2 m3 m4)) := by
  refine hsI.enter (cc := cX0_stroke) (maxL := 8) (ret := (some .int)) (by decide) rfl (Nat.le_of_ble_eq_true rfl) ?_
  intro Pg En Ss Mi Ar Be Me Co AA QQ hQ h hr hlk
  refine hs_lv (lv' := [(0, .ref (g 0)), (1, .int s0), (2, .int ax), (3, .int b0), (4, .int u0), (5, .int v0), (6, .int x0)]) rfl ?_
  refine hv_iload_n h dX0_stroke_0 1 rfl rfl ?_
  refine hv_callp (ws' := (hsW g cI cC cols sol oth out num od dn tb lf tk en m0 m1 m2 m3 m4)) (v := hx_b (hx_in s0 6)) h (hr_Si (n := 1) (rest := []) h (k_X0_isSolid l D cI cC (hsW g cI cC cols sol oth out num od dn tb lf tk en m0 m1 m2 m3 m4) s0) w_methodLink_X0_37 w_static_X0_isSolid w_initialized_X0 w_code_X0_isSolid (by decide +kernel) rfl rfl rfl ⟨by decide, by decide⟩ rfl (Nat.le_of_ble_eq_true rfl) ⟨Nat.zero_le _, Nat.zero_le _⟩ dX0_stroke_1) ?_
  refine hv_bif_eq h 26 dX0_stroke_4 rfl (fun c4 => ?_) (fun c4 => ?_)
  · refine hv_iconst h ((-1)) dX0_stroke_26 (by decide) ?_
    exact hv_iret h hr hlk hQ dX0_stroke_27 ⟨(by simp [hc_if, c4]), rfl⟩
  · refine hv_iload_n h dX0_stroke_7 2 rfl rfl ?_
    refine hv_callp (ws' := (hsW g cI cC cols sol oth out num od dn tb lf tk en m0 m1 m2 m3 m4)) (v := hx_b (hx_in ax 3)) h (hr_Si (n := 1) (rest := []) h (k_X0_isAxis l D cI cC (hsW g cI cC cols sol oth out num od dn tb lf tk en m0 m1 m2 m3 m4) ax) w_methodLink_X0_57 w_static_X0_isAxis w_initialized_X0 w_code_X0_isAxis (by decide +kernel) rfl rfl rfl ⟨by decide, by decide⟩ rfl (Nat.le_of_ble_eq_true rfl) ⟨Nat.zero_le _, Nat.zero_le _⟩ dX0_stroke_8) ?_
    refine hv_bif_eq h 26 dX0_stroke_11 rfl (fun c11 => ?_) (fun c11 => ?_)
    · refine hv_iconst h ((-1)) dX0_stroke_26 (by decide) ?_
      exact hv_iret h hr hlk hQ dX0_stroke_27 ⟨(by simp [hc_if, c4, c11]), rfl⟩
    · refine hv_iload h dX0_stroke_14 4 rfl ?_
      refine hv_iload h dX0_stroke_16 5 rfl ?_
      refine hv_iload h dX0_stroke_18 6 rfl ?_
      refine hv_callp (ws' := (hsW g cI cC cols sol oth out num od dn tb lf tk en m0 m1 m2 m3 m4)) (v := hx_b (hx_spl u0 v0 x0)) h (hr_Si (n := 3) (rest := []) h (k_X0_isStrokePlace l D cI cC (hsW g cI cC cols sol oth out num od dn tb lf tk en m0 m1 m2 m3 m4) u0 v0 x0) w_methodLink_X0_134 w_static_X0_isStrokePlace w_initialized_X0 w_code_X0_isStrokePlace (by decide +kernel) rfl rfl rfl ⟨by decide, by decide⟩ rfl (Nat.le_of_ble_eq_true rfl) ⟨Nat.zero_le _, Nat.zero_le _⟩ dX0_stroke_20) ?_
      refine hv_bif_ne h 28 dX0_stroke_23 rfl (fun c23 => ?_) (fun c23 => ?_)
      · obtain ⟨i0, hi0, rfl⟩ := hx_in_nat (n := 6) (by decide) c4
        have hcli0 : (nI i0).toNatClampNeg = i0 := nI_clamp (by omega)
        refine hv_aload_n h dX0_stroke_28 0 rfl rfl ?_
        refine hv_get (C := RX0) (T := TX0) (N := 5) h 0 rfl rfl 0 (by decide) wu_X0 w_fieldLink_X0_11 (fun _ h9 => h9) rfl dX0_stroke_29 ?_
        refine hv_iload_n h dX0_stroke_32 1 rfl rfl ?_
        refine hv_aald (v := .ref (g (13 + (sol i0)))) h 1 1 rfl rfl (vp_in_nI (by omega) (by decide)) (by rw [nI_clamp (by omega)]; rfl) dX0_stroke_33 ?_
        refine hv_iload_n h dX0_stroke_34 2 rfl rfl ?_
        refine hv_iload h dX0_stroke_35 4 rfl ?_
        refine hv_iconst h (1) dX0_stroke_37 (by decide) ?_
        refine hv_isub h dX0_stroke_38 ?_
        refine hv_iload h dX0_stroke_39 6 rfl ?_
        refine hv_iadd h dX0_stroke_41 ?_
        refine hv_iload h dX0_stroke_42 5 rfl ?_
        refine hv_iload h dX0_stroke_44 6 rfl ?_
        refine hv_isub h dX0_stroke_46 ?_
        refine hv_callp (ws' := (hsW g cI cC cols sol oth out num od dn tb lf tk en m0 m1 m2 m3 m4)) (v := hx_al (cols (sol i0)) ax ((u0 - 1) + x0) (v0 - x0)) h (hr_Vi (n := 3) (rest := []) h (13 + (sol i0)) (hsW_cell (hsol i0 hi0)) rfl (k_X1_columnAlong l D cI cC (hsW g cI cC cols sol oth out num od dn tb lf tk en m0 m1 m2 m3 m4) (13 + (sol i0)) (33 + (sol i0)) (g (13 + (sol i0))) (g (33 + (sol i0))) (cols (sol i0)) (hsW_cell (hsol i0 hi0)) (hsW_arr (hsol i0 hi0)) ax ((u0 - 1) + x0) (v0 - x0)) w_methodLink_X0_127 w_instanceMethod_X1_columnAlong w_selects_X1_columnAlong w_initialized_X1 w_code_X1_columnAlong (by decide +kernel) rfl rfl rfl ⟨by decide, by decide⟩ rfl (Nat.le_of_ble_eq_true rfl) ⟨Nat.zero_le _, Nat.zero_le _⟩ dX0_stroke_47) ?_
        refine hv_istore h [(7, .int (hx_al (cols (sol i0)) ax ((u0 - 1) + x0) (v0 - x0))), (0, .ref (g 0)), (1, .int (nI i0)), (2, .int ax), (3, .int b0), (4, .int u0), (5, .int v0), (6, .int x0)] dX0_stroke_50 (by decide) rfl ?_
        refine hv_iload h dX0_stroke_52 0 rfl ?_
        refine hv_aload_n h dX0_stroke_54 1 rfl rfl ?_
        refine hv_get (C := RX0) (T := TX0) (N := 5) h 0 rfl rfl 0 (by decide) wu_X0 w_fieldLink_X0_11 (fun _ h9 => h9) rfl dX0_stroke_55 ?_
        refine hv_iload_n h dX0_stroke_58 2 rfl rfl ?_
        refine hv_aald (v := .ref (g (13 + (sol i0)))) h 1 1 rfl rfl (vp_in_nI (by omega) (by decide)) (by rw [nI_clamp (by omega)]; rfl) dX0_stroke_59 ?_
        refine hv_iload_n h dX0_stroke_60 3 rfl rfl ?_
        refine hv_iload h dX0_stroke_61 5 rfl ?_
        refine hv_iload h dX0_stroke_63 6 rfl ?_
        refine hv_callp (ws' := (hsW g cI cC cols sol oth out num od dn tb lf tk en m0 m1 m2 m3 m4)) (v := hx_al (cols (sol i0)) ax u0 v0) h (hr_Vi (n := 3) (rest := [.int (hx_al (cols (sol i0)) ax ((u0 - 1) + x0) (v0 - x0))]) h (13 + (sol i0)) (hsW_cell (hsol i0 hi0)) rfl (k_X1_columnAlong l D cI cC (hsW g cI cC cols sol oth out num od dn tb lf tk en m0 m1 m2 m3 m4) (13 + (sol i0)) (33 + (sol i0)) (g (13 + (sol i0))) (g (33 + (sol i0))) (cols (sol i0)) (hsW_cell (hsol i0 hi0)) (hsW_arr (hsol i0 hi0)) ax u0 v0) w_methodLink_X0_127 w_instanceMethod_X1_columnAlong w_selects_X1_columnAlong w_initialized_X1 w_code_X1_columnAlong (by decide +kernel) rfl rfl rfl ⟨by decide, by decide⟩ rfl (Nat.le_of_ble_eq_true rfl) ⟨Nat.zero_le _, Nat.zero_le _⟩ dX0_stroke_65) ?_
        refine hv_iload_n h dX0_stroke_68 4 rfl rfl ?_
        refine hv_callp (ws' := (hsW g cI cC cols sol oth out num od dn tb lf tk en m0 m1 m2 m3 m4)) (v := hx_sb (hx_al (cols (sol i0)) ax ((u0 - 1) + x0) (v0 - x0)) (hx_al (cols (sol i0)) ax u0 v0) b0) h (hr_Si (n := 3) (rest := []) h (k_X0_strokeBetween l D cI cC (hsW g cI cC cols sol oth out num od dn tb lf tk en m0 m1 m2 m3 m4) (hx_al (cols (sol i0)) ax ((u0 - 1) + x0) (v0 - x0)) (hx_al (cols (sol i0)) ax u0 v0) b0) w_methodLink_X0_138 w_static_X0_strokeBetween w_initialized_X0 w_code_X0_strokeBetween (by decide +kernel) rfl rfl rfl ⟨by decide, by decide⟩ rfl (Nat.le_of_ble_eq_true rfl) ⟨Nat.zero_le _, Nat.zero_le _⟩ dX0_stroke_69) ?_
        exact hv_iret h hr hlk hQ dX0_stroke_72 ⟨(by simp [hc_if, c4, c11, c23, hcli0]), rfl⟩
      · refine hv_iconst h ((-1)) dX0_stroke_26 (by decide) ?_
        exact hv_iret h hr hlk hQ dX0_stroke_27 ⟨(by simp [hc_if, c4, c11, c23]), rfl⟩
abbrev rX0_strokes : Room := { frames := 4, cells := 0, slots := 0, locals := 92 }
set_option maxHeartbeats 1000000 in
set_option maxRecDepth 100000 in
theorem k_X0_strokes (l : Launch) (D : va_G) (cI cC : ClassId) (g : Nat → Nat) (cols : Nat → Nat → Int32) (sol oth : Nat → Nat) (out : Nat) (num : Nat → Int32) (od dn tb : Int32) (lf tk : Nat → Int32) (en : Int32) (m0 m1 m2 m3 m4 : Nat × va_E) (s0 ax b0 w0 : Int32) (hsol : ∀ i, i < 6 → sol i < 20) (hv19 : ∀ i, i < 6 → sol i ≠ 19) : hsI l yX0_strokes wsX0_strokes rX0_strokes D vwCl (hsT cI cC) [.ref (g 0), .int s0, .int ax, .int b0, .int w0] (hsW g cI cC cols sol oth out num od dn tb lf tk en m0 m1 m2 m3 m4) (fun r w => r = hc_if (hx_in s0 6 && (hx_in ax 3 && (decide (w0 = 1) || decide (w0 = 2)))) (-1) (hc_sk (hx_fill (hx_vw (cols (sol s0.toNatClampNeg)) ax) (cols 19)) b0 w0) ∧ ∃ V : Nat → Int32, w = (hsW g cI cC (va_up cols 19 V) sol oth out num od dn tb lf tk en m0 m1 m2 m3 m4)) := by
  refine hsI.enter (cc := cX0_strokes) (maxL := 9) (ret := (some .int)) (by decide) rfl (Nat.le_of_ble_eq_true rfl) ?_
  intro Pg En Ss Mi Ar Be Me Co AA QQ hQ h hr hlk
  refine hs_lv (lv' := [(0, .ref (g 0)), (1, .int s0), (2, .int ax), (3, .int b0), (4, .int w0)]) rfl ?_
  refine hv_iload_n h dX0_strokes_0 1 rfl rfl ?_
  refine hv_callp (ws' := (hsW g cI cC cols sol oth out num od dn tb lf tk en m0 m1 m2 m3 m4)) (v := hx_b (hx_in s0 6)) h (hr_Si (n := 1) (rest := []) h (k_X0_isSolid l D cI cC (hsW g cI cC cols sol oth out num od dn tb lf tk en m0 m1 m2 m3 m4) s0) w_methodLink_X0_37 w_static_X0_isSolid w_initialized_X0 w_code_X0_isSolid (by decide +kernel) rfl rfl rfl ⟨by decide, by decide⟩ rfl (Nat.le_of_ble_eq_true rfl) ⟨Nat.zero_le _, Nat.zero_le _⟩ dX0_strokes_1) ?_
  refine hv_bif_eq h 26 dX0_strokes_4 rfl (fun c4 => ?_) (fun c4 => ?_)
  · refine hv_iconst h ((-1)) dX0_strokes_26 (by decide) ?_
    exact hv_iret h hr hlk hQ dX0_strokes_27 ⟨(by simp [hc_if, c4]), cols 19, (by rw [hs_up_same])⟩
  · refine hv_iload_n h dX0_strokes_7 2 rfl rfl ?_
    refine hv_callp (ws' := (hsW g cI cC cols sol oth out num od dn tb lf tk en m0 m1 m2 m3 m4)) (v := hx_b (hx_in ax 3)) h (hr_Si (n := 1) (rest := []) h (k_X0_isAxis l D cI cC (hsW g cI cC cols sol oth out num od dn tb lf tk en m0 m1 m2 m3 m4) ax) w_methodLink_X0_57 w_static_X0_isAxis w_initialized_X0 w_code_X0_isAxis (by decide +kernel) rfl rfl rfl ⟨by decide, by decide⟩ rfl (Nat.le_of_ble_eq_true rfl) ⟨Nat.zero_le _, Nat.zero_le _⟩ dX0_strokes_8) ?_
    refine hv_bif_eq h 26 dX0_strokes_11 rfl (fun c11 => ?_) (fun c11 => ?_)
    · refine hv_iconst h ((-1)) dX0_strokes_26 (by decide) ?_
      exact hv_iret h hr hlk hQ dX0_strokes_27 ⟨(by simp [hc_if, c4, c11]), cols 19, (by rw [hs_up_same])⟩
    · refine hv_iload h dX0_strokes_14 4 rfl ?_
      refine hv_iconst h (1) dX0_strokes_16 (by decide) ?_
      refine hv_icmp_eq h 28 dX0_strokes_17 rfl (fun c17 => ?_) (fun c17 => ?_)
      · obtain ⟨i0, hi0, rfl⟩ := hx_in_nat (n := 6) (by decide) c4
        have hcli0 : (nI i0).toNatClampNeg = i0 := nI_clamp (by omega)
        refine hv_aload_n h dX0_strokes_28 0 rfl rfl ?_
        refine hv_get (C := RX0) (T := TX0) (N := 5) h 0 rfl rfl 2 (by decide) wu_X0 w_fieldLink_X0_23 (fun _ h9 => h9) rfl dX0_strokes_29 ?_
        refine hv_aload_n h dX0_strokes_32 0 rfl rfl ?_
        refine hv_get (C := RX0) (T := TX0) (N := 5) h 0 rfl rfl 0 (by decide) wu_X0 w_fieldLink_X0_11 (fun _ h9 => h9) rfl dX0_strokes_33 ?_
        refine hv_iload_n h dX0_strokes_36 1 rfl rfl ?_
        refine hv_aald (v := .ref (g (13 + (sol i0)))) h 1 1 rfl rfl (vp_in_nI (by omega) (by decide)) (by rw [nI_clamp (by omega)]; rfl) dX0_strokes_37 ?_
        refine hv_iload_n h dX0_strokes_38 2 rfl rfl ?_
        refine hv_callw (ws' := (((hsW g cI cC cols sol oth out num od dn tb lf tk en m0 m1 m2 m3 m4)).set (33 + 19) (g 52, .inl (cI, 144, .inl (hx_fill (hx_vw (cols (sol i0)) ax) (cols 19)))))) h (hr_Vv (n := 2) (rest := []) h (13 + 19) (hsW_cell (by decide)) rfl (k_X1_becomeView l D cI cC (hsW g cI cC cols sol oth out num od dn tb lf tk en m0 m1 m2 m3 m4) (13 + 19) (33 + 19) (g 32) (g 52) (cols 19) (hsW_cell (by decide)) (hsW_arr (by decide)) (by omega) (13 + (sol i0)) (33 + (sol i0)) (g (13 + (sol i0))) (g (33 + (sol i0))) (cols (sol i0)) (hsW_cell (hsol i0 hi0)) (hsW_arr (hsol i0 hi0)) (by have := hsol i0 hi0; omega) (by have := hv19 i0 hi0; omega) ax) w_methodLink_X0_142 w_instanceMethod_X1_becomeView w_selects_X1_becomeView w_initialized_X1 w_code_X1_becomeView (by decide +kernel) rfl rfl rfl ⟨by decide, by decide⟩ rfl (Nat.le_of_ble_eq_true rfl) ⟨Nat.zero_le _, Nat.zero_le _⟩ dX0_strokes_39) ?_
        refine hs_ws (ws' := (hsW g cI cC (va_up cols 19 (hx_fill (hx_vw (cols (sol i0)) ax) (cols 19))) sol oth out num od dn tb lf tk en m0 m1 m2 m3 m4)) (hsW_set (by decide) _) ?_
        refine hv_iconst h (0) dX0_strokes_42 (by decide) ?_
        refine hv_istore h [(5, .int 0), (0, .ref (g 0)), (1, .int (nI i0)), (2, .int ax), (3, .int b0), (4, .int w0)] dX0_strokes_43 (by decide) rfl ?_
        refine hv_iconst h (nI 0) dX0_strokes_45 (by decide) ?_
        refine hv_istore h [(6, .int (nI 0)), (5, .int 0), (0, .ref (g 0)), (1, .int (nI i0)), (2, .int ax), (3, .int b0), (4, .int w0)] dX0_strokes_46 (by decide) rfl ?_
        have L48 : ∀ d48 u : Nat, u + d48 = 13 → ∀ (b5 : Int32), b5 = hx_it (fun u n => hx_it (fun v n => hc_sk1 (va_up cols 19 (hx_fill (hx_vw (cols (sol i0)) ax) (cols 19)) 19) b0 w0 (nI u) (nI v) n) 13 n) u 0 → hsV Pg l En rX0_strokes Ss Mi Ar Be Me Co QQ 9 D vwCl AA Ss.heap 0 0 48 [(6, .int (nI u)), (5, .int b5), (0, .ref (g 0)), (1, .int (nI i0)), (2, .int ax), (3, .int b0), (4, .int w0)] (hsW g cI cC (va_up cols 19 (hx_fill (hx_vw (cols (sol i0)) ax) (cols 19))) sol oth out num od dn tb lf tk en m0 m1 m2 m3 m4) [] := by
          intro d48
          induction d48 with
          | zero =>
            intro u kq48 b5 e_b5
            obtain rfl : u = 13 := by omega
            refine hv_iload h dX0_strokes_48 0 rfl ?_
            refine hv_bipush h (nI 12) dX0_strokes_50 (by decide) ?_
            refine hv_icmp_gt h 144 dX0_strokes_52 rfl (fun c52 => ?_) (fun hc => absurd (nI_lt (by decide) (by decide)) hc)
            refine hv_iload h dX0_strokes_144 1 rfl ?_
            exact hv_iret h hr hlk hQ dX0_strokes_146 ⟨(by rw [e_b5]; simp [hc_if, hc_sk, va_up_self, c4, c11, hcli0, c17]), _, rfl⟩
          | succ d48 ih48 =>
            intro u kq48 b5 e_b5
            have hlt48 : u < 13 := by omega
            refine hv_iload h dX0_strokes_48 0 rfl ?_
            refine hv_bipush h (nI 12) dX0_strokes_50 (by decide) ?_
            refine hv_icmp_gt h 144 dX0_strokes_52 rfl (fun hc => absurd hc (nI_nlt (Nat.le_of_lt_succ hlt48) (by decide))) (fun c52 => ?_)
            refine hv_iconst h (nI 0) dX0_strokes_55 (by decide) ?_
            refine hv_istore h [(7, .int (nI 0)), (6, .int (nI u)), (5, .int b5), (0, .ref (g 0)), (1, .int (nI i0)), (2, .int ax), (3, .int b0), (4, .int w0)] dX0_strokes_56 (by decide) rfl ?_
            have L58 : ∀ d58 v : Nat, v + d58 = 13 → ∀ (b6 : Int32), b6 = hx_it (fun v n => hc_sk1 (va_up cols 19 (hx_fill (hx_vw (cols (sol i0)) ax) (cols 19)) 19) b0 w0 (nI u) (nI v) n) v b5 → hsV Pg l En rX0_strokes Ss Mi Ar Be Me Co QQ 9 D vwCl AA Ss.heap 0 0 58 [(7, .int (nI v)), (6, .int (nI u)), (5, .int b6), (0, .ref (g 0)), (1, .int (nI i0)), (2, .int ax), (3, .int b0), (4, .int w0)] (hsW g cI cC (va_up cols 19 (hx_fill (hx_vw (cols (sol i0)) ax) (cols 19))) sol oth out num od dn tb lf tk en m0 m1 m2 m3 m4) [] := by
              intro d58
              induction d58 with
              | zero =>
                intro v kq58 b6 e_b6
                obtain rfl : v = 13 := by omega
                refine hv_iload h dX0_strokes_58 0 rfl ?_
                refine hv_bipush h (nI 12) dX0_strokes_60 (by decide) ?_
                refine hv_icmp_gt h 138 dX0_strokes_62 rfl (fun c62 => ?_) (fun hc => absurd (nI_lt (by decide) (by decide)) hc)
                refine hv_iinc h (nI (u + 1)) [(6, .int (nI (u + 1))), (7, .int (nI 13)), (5, .int b6), (0, .ref (g 0)), (1, .int (nI i0)), (2, .int ax), (3, .int b0), (4, .int w0)] dX0_strokes_138 1 rfl (hs_inc _) (by decide) rfl ?_
                refine hv_goto h 48 dX0_strokes_141 rfl ?_
                refine hs_pick (lv' := [(6, .int (nI (u + 1))), (5, .int b6), (0, .ref (g 0)), (1, .int (nI i0)), (2, .int ax), (3, .int b0), (4, .int w0)]) [0, 2, 3, 4, 5, 6, 7] rfl ?_
                exact ih48 (u + 1) (by omega) _ (by rw [hx_it_s, ← e_b5]; try first | assumption | with_reducible rfl | (simp [c4, c11, c17, hcli0, c52, c62]; done))
              | succ d58 ih58 =>
                intro v kq58 b6 e_b6
                have hlt58 : v < 13 := by omega
                refine hv_iload h dX0_strokes_58 0 rfl ?_
                refine hv_bipush h (nI 12) dX0_strokes_60 (by decide) ?_
                refine hv_icmp_gt h 138 dX0_strokes_62 rfl (fun hc => absurd hc (nI_nlt (Nat.le_of_lt_succ hlt58) (by decide))) (fun c62 => ?_)
                refine hv_aload_n h dX0_strokes_65 3 rfl rfl ?_
                refine hv_get (C := RX0) (T := TX0) (N := 5) h 0 rfl rfl 2 (by decide) wu_X0 w_fieldLink_X0_23 (fun _ h9 => h9) rfl dX0_strokes_66 ?_
                refine hv_iload h dX0_strokes_69 1 rfl ?_
                refine hv_iload h dX0_strokes_71 0 rfl ?_
                refine hv_callp (ws' := (hsW g cI cC (va_up cols 19 (hx_fill (hx_vw (cols (sol i0)) ax) (cols 19))) sol oth out num od dn tb lf tk en m0 m1 m2 m3 m4)) (v := hx_col ((va_up cols 19 (hx_fill (hx_vw (cols (sol i0)) ax) (cols 19))) 19) (nI u) (nI v)) h (hr_Vi (n := 2) (rest := []) h (13 + 19) (hsW_cell (by decide)) rfl (k_X1_column l D cI cC (hsW g cI cC (va_up cols 19 (hx_fill (hx_vw (cols (sol i0)) ax) (cols 19))) sol oth out num od dn tb lf tk en m0 m1 m2 m3 m4) (13 + 19) (33 + 19) (g 32) (g 52) ((va_up cols 19 (hx_fill (hx_vw (cols (sol i0)) ax) (cols 19))) 19) (hsW_cell (by decide)) (hsW_arr (by decide)) (nI u) (nI v)) w_methodLink_X0_145 w_instanceMethod_X1_column w_selects_X1_column w_initialized_X1 w_code_X1_column (by decide +kernel) rfl rfl rfl ⟨by decide, by decide⟩ rfl (Nat.le_of_ble_eq_true rfl) ⟨Nat.zero_le _, Nat.zero_le _⟩ dX0_strokes_73) ?_
                refine hv_istore h [(8, .int (hx_col ((va_up cols 19 (hx_fill (hx_vw (cols (sol i0)) ax) (cols 19))) 19) (nI u) (nI v))), (7, .int (nI v)), (6, .int (nI u)), (5, .int b6), (0, .ref (g 0)), (1, .int (nI i0)), (2, .int ax), (3, .int b0), (4, .int w0)] dX0_strokes_76 (by decide) rfl ?_
                refine hv_aload_n h dX0_strokes_78 4 rfl rfl ?_
                refine hv_get (C := RX0) (T := TX0) (N := 5) h 0 rfl rfl 2 (by decide) wu_X0 w_fieldLink_X0_23 (fun _ h9 => h9) rfl dX0_strokes_79 ?_
                refine hv_iload h dX0_strokes_82 2 rfl ?_
                refine hv_iconst h (1) dX0_strokes_84 (by decide) ?_
                refine hv_isub h dX0_strokes_85 ?_
                refine hv_iload h dX0_strokes_86 1 rfl ?_
                refine hv_callp (ws' := (hsW g cI cC (va_up cols 19 (hx_fill (hx_vw (cols (sol i0)) ax) (cols 19))) sol oth out num od dn tb lf tk en m0 m1 m2 m3 m4)) (v := hx_col ((va_up cols 19 (hx_fill (hx_vw (cols (sol i0)) ax) (cols 19))) 19) ((nI u) - 1) (nI v)) h (hr_Vi (n := 2) (rest := []) h (13 + 19) (hsW_cell (by decide)) rfl (k_X1_column l D cI cC (hsW g cI cC (va_up cols 19 (hx_fill (hx_vw (cols (sol i0)) ax) (cols 19))) sol oth out num od dn tb lf tk en m0 m1 m2 m3 m4) (13 + 19) (33 + 19) (g 32) (g 52) ((va_up cols 19 (hx_fill (hx_vw (cols (sol i0)) ax) (cols 19))) 19) (hsW_cell (by decide)) (hsW_arr (by decide)) ((nI u) - 1) (nI v)) w_methodLink_X0_145 w_instanceMethod_X1_column w_selects_X1_column w_initialized_X1 w_code_X1_column (by decide +kernel) rfl rfl rfl ⟨by decide, by decide⟩ rfl (Nat.le_of_ble_eq_true rfl) ⟨Nat.zero_le _, Nat.zero_le _⟩ dX0_strokes_88) ?_
                refine hv_iload h dX0_strokes_91 0 rfl ?_
                refine hv_iload_n h dX0_strokes_93 7 rfl rfl ?_
                refine hv_callp (ws' := (hsW g cI cC (va_up cols 19 (hx_fill (hx_vw (cols (sol i0)) ax) (cols 19))) sol oth out num od dn tb lf tk en m0 m1 m2 m3 m4)) (v := hx_sb (hx_col ((va_up cols 19 (hx_fill (hx_vw (cols (sol i0)) ax) (cols 19))) 19) ((nI u) - 1) (nI v)) (hx_col ((va_up cols 19 (hx_fill (hx_vw (cols (sol i0)) ax) (cols 19))) 19) (nI u) (nI v)) b0) h (hr_Si (n := 3) (rest := []) h (k_X0_strokeBetween l D cI cC (hsW g cI cC (va_up cols 19 (hx_fill (hx_vw (cols (sol i0)) ax) (cols 19))) sol oth out num od dn tb lf tk en m0 m1 m2 m3 m4) (hx_col ((va_up cols 19 (hx_fill (hx_vw (cols (sol i0)) ax) (cols 19))) 19) ((nI u) - 1) (nI v)) (hx_col ((va_up cols 19 (hx_fill (hx_vw (cols (sol i0)) ax) (cols 19))) 19) (nI u) (nI v)) b0) w_methodLink_X0_138 w_static_X0_strokeBetween w_initialized_X0 w_code_X0_strokeBetween (by decide +kernel) rfl rfl rfl ⟨by decide, by decide⟩ rfl (Nat.le_of_ble_eq_true rfl) ⟨Nat.zero_le _, Nat.zero_le _⟩ dX0_strokes_94) ?_
                refine hv_iload h dX0_strokes_97 8 rfl ?_
                refine hv_icmp_ne h 105 dX0_strokes_99 rfl (fun c99 => ?_) (fun c99 => ?_)
                · refine hv_aload_n h dX0_strokes_105 4 rfl rfl ?_
                  refine hv_get (C := RX0) (T := TX0) (N := 5) h 0 rfl rfl 2 (by decide) wu_X0 w_fieldLink_X0_23 (fun _ h9 => h9) rfl dX0_strokes_106 ?_
                  refine hv_iload h dX0_strokes_109 2 rfl ?_
                  refine hv_iload h dX0_strokes_111 1 rfl ?_
                  refine hv_iconst h (1) dX0_strokes_113 (by decide) ?_
                  refine hv_isub h dX0_strokes_114 ?_
                  refine hv_callp (ws' := (hsW g cI cC (va_up cols 19 (hx_fill (hx_vw (cols (sol i0)) ax) (cols 19))) sol oth out num od dn tb lf tk en m0 m1 m2 m3 m4)) (v := hx_col ((va_up cols 19 (hx_fill (hx_vw (cols (sol i0)) ax) (cols 19))) 19) (nI u) ((nI v) - 1)) h (hr_Vi (n := 2) (rest := []) h (13 + 19) (hsW_cell (by decide)) rfl (k_X1_column l D cI cC (hsW g cI cC (va_up cols 19 (hx_fill (hx_vw (cols (sol i0)) ax) (cols 19))) sol oth out num od dn tb lf tk en m0 m1 m2 m3 m4) (13 + 19) (33 + 19) (g 32) (g 52) ((va_up cols 19 (hx_fill (hx_vw (cols (sol i0)) ax) (cols 19))) 19) (hsW_cell (by decide)) (hsW_arr (by decide)) (nI u) ((nI v) - 1)) w_methodLink_X0_145 w_instanceMethod_X1_column w_selects_X1_column w_initialized_X1 w_code_X1_column (by decide +kernel) rfl rfl rfl ⟨by decide, by decide⟩ rfl (Nat.le_of_ble_eq_true rfl) ⟨Nat.zero_le _, Nat.zero_le _⟩ dX0_strokes_115) ?_
                  refine hv_iload h dX0_strokes_118 0 rfl ?_
                  refine hv_iload_n h dX0_strokes_120 7 rfl rfl ?_
                  refine hv_callp (ws' := (hsW g cI cC (va_up cols 19 (hx_fill (hx_vw (cols (sol i0)) ax) (cols 19))) sol oth out num od dn tb lf tk en m0 m1 m2 m3 m4)) (v := hx_sb (hx_col ((va_up cols 19 (hx_fill (hx_vw (cols (sol i0)) ax) (cols 19))) 19) (nI u) ((nI v) - 1)) (hx_col ((va_up cols 19 (hx_fill (hx_vw (cols (sol i0)) ax) (cols 19))) 19) (nI u) (nI v)) b0) h (hr_Si (n := 3) (rest := []) h (k_X0_strokeBetween l D cI cC (hsW g cI cC (va_up cols 19 (hx_fill (hx_vw (cols (sol i0)) ax) (cols 19))) sol oth out num od dn tb lf tk en m0 m1 m2 m3 m4) (hx_col ((va_up cols 19 (hx_fill (hx_vw (cols (sol i0)) ax) (cols 19))) 19) (nI u) ((nI v) - 1)) (hx_col ((va_up cols 19 (hx_fill (hx_vw (cols (sol i0)) ax) (cols 19))) 19) (nI u) (nI v)) b0) w_methodLink_X0_138 w_static_X0_strokeBetween w_initialized_X0 w_code_X0_strokeBetween (by decide +kernel) rfl rfl rfl ⟨by decide, by decide⟩ rfl (Nat.le_of_ble_eq_true rfl) ⟨Nat.zero_le _, Nat.zero_le _⟩ dX0_strokes_121) ?_
                  refine hv_iload h dX0_strokes_124 8 rfl ?_
                  refine hv_icmp_ne h 132 dX0_strokes_126 rfl (fun c126 => ?_) (fun c126 => ?_)
                  · refine hv_iinc h (nI (v + 1)) [(7, .int (nI (v + 1))), (8, .int (hx_col ((va_up cols 19 (hx_fill (hx_vw (cols (sol i0)) ax) (cols 19))) 19) (nI u) (nI v))), (6, .int (nI u)), (5, .int b6), (0, .ref (g 0)), (1, .int (nI i0)), (2, .int ax), (3, .int b0), (4, .int w0)] dX0_strokes_132 1 rfl (hs_inc _) (by decide) rfl ?_
                    refine hv_goto h 58 dX0_strokes_135 rfl ?_
                    refine hs_pick (lv' := [(7, .int (nI (v + 1))), (6, .int (nI u)), (5, .int b6), (0, .ref (g 0)), (1, .int (nI i0)), (2, .int ax), (3, .int b0), (4, .int w0)]) [0, 2, 3, 4, 5, 6, 7, 8] rfl ?_
                    exact ih58 (v + 1) (by omega) _ (by rw [hx_it_s, ← e_b6]; simp only [hc_sk1, c99, c126, if_true, if_false])
                  · refine hv_iinc h (b6 + 1) [(5, .int (b6 + 1)), (8, .int (hx_col ((va_up cols 19 (hx_fill (hx_vw (cols (sol i0)) ax) (cols 19))) 19) (nI u) (nI v))), (7, .int (nI v)), (6, .int (nI u)), (0, .ref (g 0)), (1, .int (nI i0)), (2, .int ax), (3, .int b0), (4, .int w0)] dX0_strokes_129 3 rfl (hs_incx _) (by decide) rfl ?_
                    refine hv_iinc h (nI (v + 1)) [(7, .int (nI (v + 1))), (5, .int (b6 + 1)), (8, .int (hx_col ((va_up cols 19 (hx_fill (hx_vw (cols (sol i0)) ax) (cols 19))) 19) (nI u) (nI v))), (6, .int (nI u)), (0, .ref (g 0)), (1, .int (nI i0)), (2, .int ax), (3, .int b0), (4, .int w0)] dX0_strokes_132 2 rfl (hs_inc _) (by decide) rfl ?_
                    refine hv_goto h 58 dX0_strokes_135 rfl ?_
                    refine hs_pick (lv' := [(7, .int (nI (v + 1))), (6, .int (nI u)), (5, .int (b6 + 1)), (0, .ref (g 0)), (1, .int (nI i0)), (2, .int ax), (3, .int b0), (4, .int w0)]) [0, 3, 1, 4, 5, 6, 7, 8] rfl ?_
                    exact ih58 (v + 1) (by omega) _ (by rw [hx_it_s, ← e_b6]; simp only [hc_sk1, c99, c126, if_true, if_false])
                · refine hv_iinc h (b6 + 1) [(5, .int (b6 + 1)), (8, .int (hx_col ((va_up cols 19 (hx_fill (hx_vw (cols (sol i0)) ax) (cols 19))) 19) (nI u) (nI v))), (7, .int (nI v)), (6, .int (nI u)), (0, .ref (g 0)), (1, .int (nI i0)), (2, .int ax), (3, .int b0), (4, .int w0)] dX0_strokes_102 3 rfl (hs_incx _) (by decide) rfl ?_
                  refine hv_aload_n h dX0_strokes_105 4 rfl rfl ?_
                  refine hv_get (C := RX0) (T := TX0) (N := 5) h 0 rfl rfl 2 (by decide) wu_X0 w_fieldLink_X0_23 (fun _ h9 => h9) rfl dX0_strokes_106 ?_
                  refine hv_iload h dX0_strokes_109 3 rfl ?_
                  refine hv_iload h dX0_strokes_111 2 rfl ?_
                  refine hv_iconst h (1) dX0_strokes_113 (by decide) ?_
                  refine hv_isub h dX0_strokes_114 ?_
                  refine hv_callp (ws' := (hsW g cI cC (va_up cols 19 (hx_fill (hx_vw (cols (sol i0)) ax) (cols 19))) sol oth out num od dn tb lf tk en m0 m1 m2 m3 m4)) (v := hx_col ((va_up cols 19 (hx_fill (hx_vw (cols (sol i0)) ax) (cols 19))) 19) (nI u) ((nI v) - 1)) h (hr_Vi (n := 2) (rest := []) h (13 + 19) (hsW_cell (by decide)) rfl (k_X1_column l D cI cC (hsW g cI cC (va_up cols 19 (hx_fill (hx_vw (cols (sol i0)) ax) (cols 19))) sol oth out num od dn tb lf tk en m0 m1 m2 m3 m4) (13 + 19) (33 + 19) (g 32) (g 52) ((va_up cols 19 (hx_fill (hx_vw (cols (sol i0)) ax) (cols 19))) 19) (hsW_cell (by decide)) (hsW_arr (by decide)) (nI u) ((nI v) - 1)) w_methodLink_X0_145 w_instanceMethod_X1_column w_selects_X1_column w_initialized_X1 w_code_X1_column (by decide +kernel) rfl rfl rfl ⟨by decide, by decide⟩ rfl (Nat.le_of_ble_eq_true rfl) ⟨Nat.zero_le _, Nat.zero_le _⟩ dX0_strokes_115) ?_
                  refine hv_iload h dX0_strokes_118 1 rfl ?_
                  refine hv_iload_n h dX0_strokes_120 7 rfl rfl ?_
                  refine hv_callp (ws' := (hsW g cI cC (va_up cols 19 (hx_fill (hx_vw (cols (sol i0)) ax) (cols 19))) sol oth out num od dn tb lf tk en m0 m1 m2 m3 m4)) (v := hx_sb (hx_col ((va_up cols 19 (hx_fill (hx_vw (cols (sol i0)) ax) (cols 19))) 19) (nI u) ((nI v) - 1)) (hx_col ((va_up cols 19 (hx_fill (hx_vw (cols (sol i0)) ax) (cols 19))) 19) (nI u) (nI v)) b0) h (hr_Si (n := 3) (rest := []) h (k_X0_strokeBetween l D cI cC (hsW g cI cC (va_up cols 19 (hx_fill (hx_vw (cols (sol i0)) ax) (cols 19))) sol oth out num od dn tb lf tk en m0 m1 m2 m3 m4) (hx_col ((va_up cols 19 (hx_fill (hx_vw (cols (sol i0)) ax) (cols 19))) 19) (nI u) ((nI v) - 1)) (hx_col ((va_up cols 19 (hx_fill (hx_vw (cols (sol i0)) ax) (cols 19))) 19) (nI u) (nI v)) b0) w_methodLink_X0_138 w_static_X0_strokeBetween w_initialized_X0 w_code_X0_strokeBetween (by decide +kernel) rfl rfl rfl ⟨by decide, by decide⟩ rfl (Nat.le_of_ble_eq_true rfl) ⟨Nat.zero_le _, Nat.zero_le _⟩ dX0_strokes_121) ?_
                  refine hv_iload h dX0_strokes_124 8 rfl ?_
                  refine hv_icmp_ne h 132 dX0_strokes_126 rfl (fun c126 => ?_) (fun c126 => ?_)
                  · refine hv_iinc h (nI (v + 1)) [(7, .int (nI (v + 1))), (5, .int (b6 + 1)), (8, .int (hx_col ((va_up cols 19 (hx_fill (hx_vw (cols (sol i0)) ax) (cols 19))) 19) (nI u) (nI v))), (6, .int (nI u)), (0, .ref (g 0)), (1, .int (nI i0)), (2, .int ax), (3, .int b0), (4, .int w0)] dX0_strokes_132 2 rfl (hs_inc _) (by decide) rfl ?_
                    refine hv_goto h 58 dX0_strokes_135 rfl ?_
                    refine hs_pick (lv' := [(7, .int (nI (v + 1))), (6, .int (nI u)), (5, .int (b6 + 1)), (0, .ref (g 0)), (1, .int (nI i0)), (2, .int ax), (3, .int b0), (4, .int w0)]) [0, 3, 1, 4, 5, 6, 7, 8] rfl ?_
                    exact ih58 (v + 1) (by omega) _ (by rw [hx_it_s, ← e_b6]; simp only [hc_sk1, c99, c126, if_true, if_false])
                  · refine hv_iinc h ((b6 + 1) + 1) [(5, .int ((b6 + 1) + 1)), (8, .int (hx_col ((va_up cols 19 (hx_fill (hx_vw (cols (sol i0)) ax) (cols 19))) 19) (nI u) (nI v))), (7, .int (nI v)), (6, .int (nI u)), (0, .ref (g 0)), (1, .int (nI i0)), (2, .int ax), (3, .int b0), (4, .int w0)] dX0_strokes_129 0 rfl (hs_incx _) (by decide) rfl ?_
                    refine hv_iinc h (nI (v + 1)) [(7, .int (nI (v + 1))), (5, .int ((b6 + 1) + 1)), (8, .int (hx_col ((va_up cols 19 (hx_fill (hx_vw (cols (sol i0)) ax) (cols 19))) 19) (nI u) (nI v))), (6, .int (nI u)), (0, .ref (g 0)), (1, .int (nI i0)), (2, .int ax), (3, .int b0), (4, .int w0)] dX0_strokes_132 2 rfl (hs_inc _) (by decide) rfl ?_
                    refine hv_goto h 58 dX0_strokes_135 rfl ?_
                    refine hs_pick (lv' := [(7, .int (nI (v + 1))), (6, .int (nI u)), (5, .int ((b6 + 1) + 1)), (0, .ref (g 0)), (1, .int (nI i0)), (2, .int ax), (3, .int b0), (4, .int w0)]) [0, 3, 1, 4, 5, 6, 7, 8] rfl ?_
                    exact ih58 (v + 1) (by omega) _ (by rw [hx_it_s, ← e_b6]; simp only [hc_sk1, c99, c126, if_true, if_false])
            exact L58 13 0 (by omega) _ rfl
        exact L48 13 0 (by omega) _ rfl
      · refine hv_iload h dX0_strokes_20 4 rfl ?_
        refine hv_iconst h (2) dX0_strokes_22 (by decide) ?_
        refine hv_icmp_eq h 28 dX0_strokes_23 rfl (fun c23 => ?_) (fun c23 => ?_)
        · obtain ⟨i0, hi0, rfl⟩ := hx_in_nat (n := 6) (by decide) c4
          have hcli0 : (nI i0).toNatClampNeg = i0 := nI_clamp (by omega)
          refine hv_aload_n h dX0_strokes_28 0 rfl rfl ?_
          refine hv_get (C := RX0) (T := TX0) (N := 5) h 0 rfl rfl 2 (by decide) wu_X0 w_fieldLink_X0_23 (fun _ h9 => h9) rfl dX0_strokes_29 ?_
          refine hv_aload_n h dX0_strokes_32 0 rfl rfl ?_
          refine hv_get (C := RX0) (T := TX0) (N := 5) h 0 rfl rfl 0 (by decide) wu_X0 w_fieldLink_X0_11 (fun _ h9 => h9) rfl dX0_strokes_33 ?_
          refine hv_iload_n h dX0_strokes_36 1 rfl rfl ?_
          refine hv_aald (v := .ref (g (13 + (sol i0)))) h 1 1 rfl rfl (vp_in_nI (by omega) (by decide)) (by rw [nI_clamp (by omega)]; rfl) dX0_strokes_37 ?_
          refine hv_iload_n h dX0_strokes_38 2 rfl rfl ?_
          refine hv_callw (ws' := (((hsW g cI cC cols sol oth out num od dn tb lf tk en m0 m1 m2 m3 m4)).set (33 + 19) (g 52, .inl (cI, 144, .inl (hx_fill (hx_vw (cols (sol i0)) ax) (cols 19)))))) h (hr_Vv (n := 2) (rest := []) h (13 + 19) (hsW_cell (by decide)) rfl (k_X1_becomeView l D cI cC (hsW g cI cC cols sol oth out num od dn tb lf tk en m0 m1 m2 m3 m4) (13 + 19) (33 + 19) (g 32) (g 52) (cols 19) (hsW_cell (by decide)) (hsW_arr (by decide)) (by omega) (13 + (sol i0)) (33 + (sol i0)) (g (13 + (sol i0))) (g (33 + (sol i0))) (cols (sol i0)) (hsW_cell (hsol i0 hi0)) (hsW_arr (hsol i0 hi0)) (by have := hsol i0 hi0; omega) (by have := hv19 i0 hi0; omega) ax) w_methodLink_X0_142 w_instanceMethod_X1_becomeView w_selects_X1_becomeView w_initialized_X1 w_code_X1_becomeView (by decide +kernel) rfl rfl rfl ⟨by decide, by decide⟩ rfl (Nat.le_of_ble_eq_true rfl) ⟨Nat.zero_le _, Nat.zero_le _⟩ dX0_strokes_39) ?_
          refine hs_ws (ws' := (hsW g cI cC (va_up cols 19 (hx_fill (hx_vw (cols (sol i0)) ax) (cols 19))) sol oth out num od dn tb lf tk en m0 m1 m2 m3 m4)) (hsW_set (by decide) _) ?_
          refine hv_iconst h (0) dX0_strokes_42 (by decide) ?_
          refine hv_istore h [(5, .int 0), (0, .ref (g 0)), (1, .int (nI i0)), (2, .int ax), (3, .int b0), (4, .int w0)] dX0_strokes_43 (by decide) rfl ?_
          refine hv_iconst h (nI 0) dX0_strokes_45 (by decide) ?_
          refine hv_istore h [(6, .int (nI 0)), (5, .int 0), (0, .ref (g 0)), (1, .int (nI i0)), (2, .int ax), (3, .int b0), (4, .int w0)] dX0_strokes_46 (by decide) rfl ?_
          have L48 : ∀ d48 u : Nat, u + d48 = 13 → ∀ (b5 : Int32), b5 = hx_it (fun u n => hx_it (fun v n => hc_sk1 (va_up cols 19 (hx_fill (hx_vw (cols (sol i0)) ax) (cols 19)) 19) b0 w0 (nI u) (nI v) n) 13 n) u 0 → hsV Pg l En rX0_strokes Ss Mi Ar Be Me Co QQ 9 D vwCl AA Ss.heap 0 0 48 [(6, .int (nI u)), (5, .int b5), (0, .ref (g 0)), (1, .int (nI i0)), (2, .int ax), (3, .int b0), (4, .int w0)] (hsW g cI cC (va_up cols 19 (hx_fill (hx_vw (cols (sol i0)) ax) (cols 19))) sol oth out num od dn tb lf tk en m0 m1 m2 m3 m4) [] := by
            intro d48
            induction d48 with
            | zero =>
              intro u kq48 b5 e_b5
              obtain rfl : u = 13 := by omega
              refine hv_iload h dX0_strokes_48 0 rfl ?_
              refine hv_bipush h (nI 12) dX0_strokes_50 (by decide) ?_
              refine hv_icmp_gt h 144 dX0_strokes_52 rfl (fun c52 => ?_) (fun hc => absurd (nI_lt (by decide) (by decide)) hc)
              refine hv_iload h dX0_strokes_144 1 rfl ?_
              exact hv_iret h hr hlk hQ dX0_strokes_146 ⟨(by rw [e_b5]; simp [hc_if, hc_sk, va_up_self, c4, c11, hcli0, c23]), _, rfl⟩
            | succ d48 ih48 =>
              intro u kq48 b5 e_b5
              have hlt48 : u < 13 := by omega
              refine hv_iload h dX0_strokes_48 0 rfl ?_
              refine hv_bipush h (nI 12) dX0_strokes_50 (by decide) ?_
              refine hv_icmp_gt h 144 dX0_strokes_52 rfl (fun hc => absurd hc (nI_nlt (Nat.le_of_lt_succ hlt48) (by decide))) (fun c52 => ?_)
              refine hv_iconst h (nI 0) dX0_strokes_55 (by decide) ?_
              refine hv_istore h [(7, .int (nI 0)), (6, .int (nI u)), (5, .int b5), (0, .ref (g 0)), (1, .int (nI i0)), (2, .int ax), (3, .int b0), (4, .int w0)] dX0_strokes_56 (by decide) rfl ?_
              have L58 : ∀ d58 v : Nat, v + d58 = 13 → ∀ (b6 : Int32), b6 = hx_it (fun v n => hc_sk1 (va_up cols 19 (hx_fill (hx_vw (cols (sol i0)) ax) (cols 19)) 19) b0 w0 (nI u) (nI v) n) v b5 → hsV Pg l En rX0_strokes Ss Mi Ar Be Me Co QQ 9 D vwCl AA Ss.heap 0 0 58 [(7, .int (nI v)), (6, .int (nI u)), (5, .int b6), (0, .ref (g 0)), (1, .int (nI i0)), (2, .int ax), (3, .int b0), (4, .int w0)] (hsW g cI cC (va_up cols 19 (hx_fill (hx_vw (cols (sol i0)) ax) (cols 19))) sol oth out num od dn tb lf tk en m0 m1 m2 m3 m4) [] := by
                intro d58
                induction d58 with
                | zero =>
                  intro v kq58 b6 e_b6
                  obtain rfl : v = 13 := by omega
                  refine hv_iload h dX0_strokes_58 0 rfl ?_
                  refine hv_bipush h (nI 12) dX0_strokes_60 (by decide) ?_
                  refine hv_icmp_gt h 138 dX0_strokes_62 rfl (fun c62 => ?_) (fun hc => absurd (nI_lt (by decide) (by decide)) hc)
                  refine hv_iinc h (nI (u + 1)) [(6, .int (nI (u + 1))), (7, .int (nI 13)), (5, .int b6), (0, .ref (g 0)), (1, .int (nI i0)), (2, .int ax), (3, .int b0), (4, .int w0)] dX0_strokes_138 1 rfl (hs_inc _) (by decide) rfl ?_
                  refine hv_goto h 48 dX0_strokes_141 rfl ?_
                  refine hs_pick (lv' := [(6, .int (nI (u + 1))), (5, .int b6), (0, .ref (g 0)), (1, .int (nI i0)), (2, .int ax), (3, .int b0), (4, .int w0)]) [0, 2, 3, 4, 5, 6, 7] rfl ?_
                  exact ih48 (u + 1) (by omega) _ (by rw [hx_it_s, ← e_b5]; try first | assumption | with_reducible rfl | (simp [c4, c11, c17, c23, hcli0, c52, c62]; done))
                | succ d58 ih58 =>
                  intro v kq58 b6 e_b6
                  have hlt58 : v < 13 := by omega
                  refine hv_iload h dX0_strokes_58 0 rfl ?_
                  refine hv_bipush h (nI 12) dX0_strokes_60 (by decide) ?_
                  refine hv_icmp_gt h 138 dX0_strokes_62 rfl (fun hc => absurd hc (nI_nlt (Nat.le_of_lt_succ hlt58) (by decide))) (fun c62 => ?_)
                  refine hv_aload_n h dX0_strokes_65 3 rfl rfl ?_
                  refine hv_get (C := RX0) (T := TX0) (N := 5) h 0 rfl rfl 2 (by decide) wu_X0 w_fieldLink_X0_23 (fun _ h9 => h9) rfl dX0_strokes_66 ?_
                  refine hv_iload h dX0_strokes_69 1 rfl ?_
                  refine hv_iload h dX0_strokes_71 0 rfl ?_
                  refine hv_callp (ws' := (hsW g cI cC (va_up cols 19 (hx_fill (hx_vw (cols (sol i0)) ax) (cols 19))) sol oth out num od dn tb lf tk en m0 m1 m2 m3 m4)) (v := hx_col ((va_up cols 19 (hx_fill (hx_vw (cols (sol i0)) ax) (cols 19))) 19) (nI u) (nI v)) h (hr_Vi (n := 2) (rest := []) h (13 + 19) (hsW_cell (by decide)) rfl (k_X1_column l D cI cC (hsW g cI cC (va_up cols 19 (hx_fill (hx_vw (cols (sol i0)) ax) (cols 19))) sol oth out num od dn tb lf tk en m0 m1 m2 m3 m4) (13 + 19) (33 + 19) (g 32) (g 52) ((va_up cols 19 (hx_fill (hx_vw (cols (sol i0)) ax) (cols 19))) 19) (hsW_cell (by decide)) (hsW_arr (by decide)) (nI u) (nI v)) w_methodLink_X0_145 w_instanceMethod_X1_column w_selects_X1_column w_initialized_X1 w_code_X1_column (by decide +kernel) rfl rfl rfl ⟨by decide, by decide⟩ rfl (Nat.le_of_ble_eq_true rfl) ⟨Nat.zero_le _, Nat.zero_le _⟩ dX0_strokes_73) ?_
                  refine hv_istore h [(8, .int (hx_col ((va_up cols 19 (hx_fill (hx_vw (cols (sol i0)) ax) (cols 19))) 19) (nI u) (nI v))), (7, .int (nI v)), (6, .int (nI u)), (5, .int b6), (0, .ref (g 0)), (1, .int (nI i0)), (2, .int ax), (3, .int b0), (4, .int w0)] dX0_strokes_76 (by decide) rfl ?_
                  refine hv_aload_n h dX0_strokes_78 4 rfl rfl ?_
                  refine hv_get (C := RX0) (T := TX0) (N := 5) h 0 rfl rfl 2 (by decide) wu_X0 w_fieldLink_X0_23 (fun _ h9 => h9) rfl dX0_strokes_79 ?_
                  refine hv_iload h dX0_strokes_82 2 rfl ?_
                  refine hv_iconst h (1) dX0_strokes_84 (by decide) ?_
                  refine hv_isub h dX0_strokes_85 ?_
                  refine hv_iload h dX0_strokes_86 1 rfl ?_
                  refine hv_callp (ws' := (hsW g cI cC (va_up cols 19 (hx_fill (hx_vw (cols (sol i0)) ax) (cols 19))) sol oth out num od dn tb lf tk en m0 m1 m2 m3 m4)) (v := hx_col ((va_up cols 19 (hx_fill (hx_vw (cols (sol i0)) ax) (cols 19))) 19) ((nI u) - 1) (nI v)) h (hr_Vi (n := 2) (rest := []) h (13 + 19) (hsW_cell (by decide)) rfl (k_X1_column l D cI cC (hsW g cI cC (va_up cols 19 (hx_fill (hx_vw (cols (sol i0)) ax) (cols 19))) sol oth out num od dn tb lf tk en m0 m1 m2 m3 m4) (13 + 19) (33 + 19) (g 32) (g 52) ((va_up cols 19 (hx_fill (hx_vw (cols (sol i0)) ax) (cols 19))) 19) (hsW_cell (by decide)) (hsW_arr (by decide)) ((nI u) - 1) (nI v)) w_methodLink_X0_145 w_instanceMethod_X1_column w_selects_X1_column w_initialized_X1 w_code_X1_column (by decide +kernel) rfl rfl rfl ⟨by decide, by decide⟩ rfl (Nat.le_of_ble_eq_true rfl) ⟨Nat.zero_le _, Nat.zero_le _⟩ dX0_strokes_88) ?_
                  refine hv_iload h dX0_strokes_91 0 rfl ?_
                  refine hv_iload_n h dX0_strokes_93 7 rfl rfl ?_
                  refine hv_callp (ws' := (hsW g cI cC (va_up cols 19 (hx_fill (hx_vw (cols (sol i0)) ax) (cols 19))) sol oth out num od dn tb lf tk en m0 m1 m2 m3 m4)) (v := hx_sb (hx_col ((va_up cols 19 (hx_fill (hx_vw (cols (sol i0)) ax) (cols 19))) 19) ((nI u) - 1) (nI v)) (hx_col ((va_up cols 19 (hx_fill (hx_vw (cols (sol i0)) ax) (cols 19))) 19) (nI u) (nI v)) b0) h (hr_Si (n := 3) (rest := []) h (k_X0_strokeBetween l D cI cC (hsW g cI cC (va_up cols 19 (hx_fill (hx_vw (cols (sol i0)) ax) (cols 19))) sol oth out num od dn tb lf tk en m0 m1 m2 m3 m4) (hx_col ((va_up cols 19 (hx_fill (hx_vw (cols (sol i0)) ax) (cols 19))) 19) ((nI u) - 1) (nI v)) (hx_col ((va_up cols 19 (hx_fill (hx_vw (cols (sol i0)) ax) (cols 19))) 19) (nI u) (nI v)) b0) w_methodLink_X0_138 w_static_X0_strokeBetween w_initialized_X0 w_code_X0_strokeBetween (by decide +kernel) rfl rfl rfl ⟨by decide, by decide⟩ rfl (Nat.le_of_ble_eq_true rfl) ⟨Nat.zero_le _, Nat.zero_le _⟩ dX0_strokes_94) ?_
                  refine hv_iload h dX0_strokes_97 8 rfl ?_
                  refine hv_icmp_ne h 105 dX0_strokes_99 rfl (fun c99 => ?_) (fun c99 => ?_)
                  · refine hv_aload_n h dX0_strokes_105 4 rfl rfl ?_
                    refine hv_get (C := RX0) (T := TX0) (N := 5) h 0 rfl rfl 2 (by decide) wu_X0 w_fieldLink_X0_23 (fun _ h9 => h9) rfl dX0_strokes_106 ?_
                    refine hv_iload h dX0_strokes_109 2 rfl ?_
                    refine hv_iload h dX0_strokes_111 1 rfl ?_
                    refine hv_iconst h (1) dX0_strokes_113 (by decide) ?_
                    refine hv_isub h dX0_strokes_114 ?_
                    refine hv_callp (ws' := (hsW g cI cC (va_up cols 19 (hx_fill (hx_vw (cols (sol i0)) ax) (cols 19))) sol oth out num od dn tb lf tk en m0 m1 m2 m3 m4)) (v := hx_col ((va_up cols 19 (hx_fill (hx_vw (cols (sol i0)) ax) (cols 19))) 19) (nI u) ((nI v) - 1)) h (hr_Vi (n := 2) (rest := []) h (13 + 19) (hsW_cell (by decide)) rfl (k_X1_column l D cI cC (hsW g cI cC (va_up cols 19 (hx_fill (hx_vw (cols (sol i0)) ax) (cols 19))) sol oth out num od dn tb lf tk en m0 m1 m2 m3 m4) (13 + 19) (33 + 19) (g 32) (g 52) ((va_up cols 19 (hx_fill (hx_vw (cols (sol i0)) ax) (cols 19))) 19) (hsW_cell (by decide)) (hsW_arr (by decide)) (nI u) ((nI v) - 1)) w_methodLink_X0_145 w_instanceMethod_X1_column w_selects_X1_column w_initialized_X1 w_code_X1_column (by decide +kernel) rfl rfl rfl ⟨by decide, by decide⟩ rfl (Nat.le_of_ble_eq_true rfl) ⟨Nat.zero_le _, Nat.zero_le _⟩ dX0_strokes_115) ?_
                    refine hv_iload h dX0_strokes_118 0 rfl ?_
                    refine hv_iload_n h dX0_strokes_120 7 rfl rfl ?_
                    refine hv_callp (ws' := (hsW g cI cC (va_up cols 19 (hx_fill (hx_vw (cols (sol i0)) ax) (cols 19))) sol oth out num od dn tb lf tk en m0 m1 m2 m3 m4)) (v := hx_sb (hx_col ((va_up cols 19 (hx_fill (hx_vw (cols (sol i0)) ax) (cols 19))) 19) (nI u) ((nI v) - 1)) (hx_col ((va_up cols 19 (hx_fill (hx_vw (cols (sol i0)) ax) (cols 19))) 19) (nI u) (nI v)) b0) h (hr_Si (n := 3) (rest := []) h (k_X0_strokeBetween l D cI cC (hsW g cI cC (va_up cols 19 (hx_fill (hx_vw (cols (sol i0)) ax) (cols 19))) sol oth out num od dn tb lf tk en m0 m1 m2 m3 m4) (hx_col ((va_up cols 19 (hx_fill (hx_vw (cols (sol i0)) ax) (cols 19))) 19) (nI u) ((nI v) - 1)) (hx_col ((va_up cols 19 (hx_fill (hx_vw (cols (sol i0)) ax) (cols 19))) 19) (nI u) (nI v)) b0) w_methodLink_X0_138 w_static_X0_strokeBetween w_initialized_X0 w_code_X0_strokeBetween (by decide +kernel) rfl rfl rfl ⟨by decide, by decide⟩ rfl (Nat.le_of_ble_eq_true rfl) ⟨Nat.zero_le _, Nat.zero_le _⟩ dX0_strokes_121) ?_
                    refine hv_iload h dX0_strokes_124 8 rfl ?_
                    refine hv_icmp_ne h 132 dX0_strokes_126 rfl (fun c126 => ?_) (fun c126 => ?_)
                    · refine hv_iinc h (nI (v + 1)) [(7, .int (nI (v + 1))), (8, .int (hx_col ((va_up cols 19 (hx_fill (hx_vw (cols (sol i0)) ax) (cols 19))) 19) (nI u) (nI v))), (6, .int (nI u)), (5, .int b6), (0, .ref (g 0)), (1, .int (nI i0)), (2, .int ax), (3, .int b0), (4, .int w0)] dX0_strokes_132 1 rfl (hs_inc _) (by decide) rfl ?_
                      refine hv_goto h 58 dX0_strokes_135 rfl ?_
                      refine hs_pick (lv' := [(7, .int (nI (v + 1))), (6, .int (nI u)), (5, .int b6), (0, .ref (g 0)), (1, .int (nI i0)), (2, .int ax), (3, .int b0), (4, .int w0)]) [0, 2, 3, 4, 5, 6, 7, 8] rfl ?_
                      exact ih58 (v + 1) (by omega) _ (by rw [hx_it_s, ← e_b6]; simp only [hc_sk1, c99, c126, if_true, if_false])
                    · refine hv_iinc h (b6 + 1) [(5, .int (b6 + 1)), (8, .int (hx_col ((va_up cols 19 (hx_fill (hx_vw (cols (sol i0)) ax) (cols 19))) 19) (nI u) (nI v))), (7, .int (nI v)), (6, .int (nI u)), (0, .ref (g 0)), (1, .int (nI i0)), (2, .int ax), (3, .int b0), (4, .int w0)] dX0_strokes_129 3 rfl (hs_incx _) (by decide) rfl ?_
                      refine hv_iinc h (nI (v + 1)) [(7, .int (nI (v + 1))), (5, .int (b6 + 1)), (8, .int (hx_col ((va_up cols 19 (hx_fill (hx_vw (cols (sol i0)) ax) (cols 19))) 19) (nI u) (nI v))), (6, .int (nI u)), (0, .ref (g 0)), (1, .int (nI i0)), (2, .int ax), (3, .int b0), (4, .int w0)] dX0_strokes_132 2 rfl (hs_inc _) (by decide) rfl ?_
                      refine hv_goto h 58 dX0_strokes_135 rfl ?_
                      refine hs_pick (lv' := [(7, .int (nI (v + 1))), (6, .int (nI u)), (5, .int (b6 + 1)), (0, .ref (g 0)), (1, .int (nI i0)), (2, .int ax), (3, .int b0), (4, .int w0)]) [0, 3, 1, 4, 5, 6, 7, 8] rfl ?_
                      exact ih58 (v + 1) (by omega) _ (by rw [hx_it_s, ← e_b6]; simp only [hc_sk1, c99, c126, if_true, if_false])
                  · refine hv_iinc h (b6 + 1) [(5, .int (b6 + 1)), (8, .int (hx_col ((va_up cols 19 (hx_fill (hx_vw (cols (sol i0)) ax) (cols 19))) 19) (nI u) (nI v))), (7, .int (nI v)), (6, .int (nI u)), (0, .ref (g 0)), (1, .int (nI i0)), (2, .int ax), (3, .int b0), (4, .int w0)] dX0_strokes_102 3 rfl (hs_incx _) (by decide) rfl ?_
                    refine hv_aload_n h dX0_strokes_105 4 rfl rfl ?_
                    refine hv_get (C := RX0) (T := TX0) (N := 5) h 0 rfl rfl 2 (by decide) wu_X0 w_fieldLink_X0_23 (fun _ h9 => h9) rfl dX0_strokes_106 ?_
                    refine hv_iload h dX0_strokes_109 3 rfl ?_
                    refine hv_iload h dX0_strokes_111 2 rfl ?_
                    refine hv_iconst h (1) dX0_strokes_113 (by decide) ?_
                    refine hv_isub h dX0_strokes_114 ?_
                    refine hv_callp (ws' := (hsW g cI cC (va_up cols 19 (hx_fill (hx_vw (cols (sol i0)) ax) (cols 19))) sol oth out num od dn tb lf tk en m0 m1 m2 m3 m4)) (v := hx_col ((va_up cols 19 (hx_fill (hx_vw (cols (sol i0)) ax) (cols 19))) 19) (nI u) ((nI v) - 1)) h (hr_Vi (n := 2) (rest := []) h (13 + 19) (hsW_cell (by decide)) rfl (k_X1_column l D cI cC (hsW g cI cC (va_up cols 19 (hx_fill (hx_vw (cols (sol i0)) ax) (cols 19))) sol oth out num od dn tb lf tk en m0 m1 m2 m3 m4) (13 + 19) (33 + 19) (g 32) (g 52) ((va_up cols 19 (hx_fill (hx_vw (cols (sol i0)) ax) (cols 19))) 19) (hsW_cell (by decide)) (hsW_arr (by decide)) (nI u) ((nI v) - 1)) w_methodLink_X0_145 w_instanceMethod_X1_column w_selects_X1_column w_initialized_X1 w_code_X1_column (by decide +kernel) rfl rfl rfl ⟨by decide, by decide⟩ rfl (Nat.le_of_ble_eq_true rfl) ⟨Nat.zero_le _, Nat.zero_le _⟩ dX0_strokes_115) ?_
                    refine hv_iload h dX0_strokes_118 1 rfl ?_
                    refine hv_iload_n h dX0_strokes_120 7 rfl rfl ?_
                    refine hv_callp (ws' := (hsW g cI cC (va_up cols 19 (hx_fill (hx_vw (cols (sol i0)) ax) (cols 19))) sol oth out num od dn tb lf tk en m0 m1 m2 m3 m4)) (v := hx_sb (hx_col ((va_up cols 19 (hx_fill (hx_vw (cols (sol i0)) ax) (cols 19))) 19) (nI u) ((nI v) - 1)) (hx_col ((va_up cols 19 (hx_fill (hx_vw (cols (sol i0)) ax) (cols 19))) 19) (nI u) (nI v)) b0) h (hr_Si (n := 3) (rest := []) h (k_X0_strokeBetween l D cI cC (hsW g cI cC (va_up cols 19 (hx_fill (hx_vw (cols (sol i0)) ax) (cols 19))) sol oth out num od dn tb lf tk en m0 m1 m2 m3 m4) (hx_col ((va_up cols 19 (hx_fill (hx_vw (cols (sol i0)) ax) (cols 19))) 19) (nI u) ((nI v) - 1)) (hx_col ((va_up cols 19 (hx_fill (hx_vw (cols (sol i0)) ax) (cols 19))) 19) (nI u) (nI v)) b0) w_methodLink_X0_138 w_static_X0_strokeBetween w_initialized_X0 w_code_X0_strokeBetween (by decide +kernel) rfl rfl rfl ⟨by decide, by decide⟩ rfl (Nat.le_of_ble_eq_true rfl) ⟨Nat.zero_le _, Nat.zero_le _⟩ dX0_strokes_121) ?_
                    refine hv_iload h dX0_strokes_124 8 rfl ?_
                    refine hv_icmp_ne h 132 dX0_strokes_126 rfl (fun c126 => ?_) (fun c126 => ?_)
                    · refine hv_iinc h (nI (v + 1)) [(7, .int (nI (v + 1))), (5, .int (b6 + 1)), (8, .int (hx_col ((va_up cols 19 (hx_fill (hx_vw (cols (sol i0)) ax) (cols 19))) 19) (nI u) (nI v))), (6, .int (nI u)), (0, .ref (g 0)), (1, .int (nI i0)), (2, .int ax), (3, .int b0), (4, .int w0)] dX0_strokes_132 2 rfl (hs_inc _) (by decide) rfl ?_
                      refine hv_goto h 58 dX0_strokes_135 rfl ?_
                      refine hs_pick (lv' := [(7, .int (nI (v + 1))), (6, .int (nI u)), (5, .int (b6 + 1)), (0, .ref (g 0)), (1, .int (nI i0)), (2, .int ax), (3, .int b0), (4, .int w0)]) [0, 3, 1, 4, 5, 6, 7, 8] rfl ?_
                      exact ih58 (v + 1) (by omega) _ (by rw [hx_it_s, ← e_b6]; simp only [hc_sk1, c99, c126, if_true, if_false])
                    · refine hv_iinc h ((b6 + 1) + 1) [(5, .int ((b6 + 1) + 1)), (8, .int (hx_col ((va_up cols 19 (hx_fill (hx_vw (cols (sol i0)) ax) (cols 19))) 19) (nI u) (nI v))), (7, .int (nI v)), (6, .int (nI u)), (0, .ref (g 0)), (1, .int (nI i0)), (2, .int ax), (3, .int b0), (4, .int w0)] dX0_strokes_129 0 rfl (hs_incx _) (by decide) rfl ?_
                      refine hv_iinc h (nI (v + 1)) [(7, .int (nI (v + 1))), (5, .int ((b6 + 1) + 1)), (8, .int (hx_col ((va_up cols 19 (hx_fill (hx_vw (cols (sol i0)) ax) (cols 19))) 19) (nI u) (nI v))), (6, .int (nI u)), (0, .ref (g 0)), (1, .int (nI i0)), (2, .int ax), (3, .int b0), (4, .int w0)] dX0_strokes_132 2 rfl (hs_inc _) (by decide) rfl ?_
                      refine hv_goto h 58 dX0_strokes_135 rfl ?_
                      refine hs_pick (lv' := [(7, .int (nI (v + 1))), (6, .int (nI u)), (5, .int ((b6 + 1) + 1)), (0, .ref (g 0)), (1, .int (nI i0)), (2, .int ax), (3, .int b0), (4, .int w0)]) [0, 3, 1, 4, 5, 6, 7, 8] rfl ?_
                      exact ih58 (v + 1) (by omega) _ (by rw [hx_it_s, ← e_b6]; simp only [hc_sk1, c99, c126, if_true, if_false])
              exact L58 13 0 (by omega) _ rfl
          exact L48 13 0 (by omega) _ rfl
        · refine hv_iconst h ((-1)) dX0_strokes_26 (by decide) ?_
          exact hv_iret h hr hlk hQ dX0_strokes_27 ⟨(by simp [hc_if, c4, c11, c17, c23]), cols 19, (by rw [hs_up_same])⟩
