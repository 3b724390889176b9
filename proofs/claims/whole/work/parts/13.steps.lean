abbrev rX2_exchange : Room := { frames := 0, cells := 0, slots := 0, locals := 0 }
set_option maxHeartbeats 1000000 in
set_option maxRecDepth 100000 in
theorem k_X2_exchange (l : Launch) (D : va_G) (cI cC : ClassId) (g : Nat → Nat) (cols : Nat → Nat → Int32) (sol oth : Nat → Nat) (out : Nat) (num : Nat → Int32) (od dn tb : Int32) (lf tk : Nat → Int32) (en : Int32) (m0 m1 m2 m3 m4 : Nat × va_E) (sg : Nat) (p : Nat) (hp : p < 12) (hn : num p = nI sg) (hsg : sg < 6) (hsol : ∀ i, i < 6 → sol i < 20) (hoth : ∀ i, i < 12 → oth i < 20) : hsI l yX2_exchange wsX2_exchange rX2_exchange D vwCl (hsT cI cC) [.ref (g 2), .ref (g 1), .int (nI p)] (hsW g cI cC cols sol oth out num od dn tb lf tk en m0 m1 m2 m3 m4) (fun r w => r = nI sg ∧ w = (hsW g cI cC cols (va_up sol sg (oth p)) (va_up oth p (sol sg)) out num od dn tb lf tk en m0 m1 m2 m3 m4)) := by
  refine hsI.enter (cc := cX2_exchange) (maxL := 5) (ret := (some .int)) (by decide) rfl (Nat.le_of_ble_eq_true rfl) ?_
  intro Pg En Ss Mi Ar Be Me Co AA QQ hQ h hr hlk
  refine hs_lv (lv' := [(0, .ref (g 2)), (1, .ref (g 1)), (2, .int (nI p))]) rfl ?_
  refine hv_aload_n h dX2_exchange_0 0 rfl rfl ?_
  refine hv_get (C := RX2) (T := TX2) (N := 5) h 2 rfl rfl 0 (by decide) wu_X2 w_fieldLink_X2_9 (fun _ h9 => h9) rfl dX2_exchange_1 ?_
  refine hv_iload_n h dX2_exchange_4 2 rfl rfl ?_
  refine hv_iald (v := num p) h 3 0 rfl rfl (vp_in_nI (by omega) (by decide)) (by rw [nI_clamp (by omega)]) dX2_exchange_5 ?_
  refine hs_top hn ?_
  refine hv_istore_n h [(3, .int (nI sg)), (0, .ref (g 2)), (1, .ref (g 1)), (2, .int (nI p))] dX2_exchange_6 rfl (by decide) rfl ?_
  refine hv_aload_n h dX2_exchange_7 1 rfl rfl ?_
  refine hv_get (C := RX2) (T := TX2) (N := 5) h 2 rfl rfl 1 (by decide) wu_X2 w_fieldLink_X2_17 (fun _ h9 => h9) rfl dX2_exchange_8 ?_
  refine hv_iload_n h dX2_exchange_11 3 rfl rfl ?_
  refine hv_aald (v := .ref (g (13 + (oth p)))) h 4 1 rfl rfl (vp_in_nI (by omega) (by decide)) (by rw [nI_clamp (by omega)]; rfl) dX2_exchange_12 ?_
  refine hv_astore h [(4, .ref (g (13 + (oth p)))), (3, .int (nI sg)), (0, .ref (g 2)), (1, .ref (g 1)), (2, .int (nI p))] dX2_exchange_13 (by decide) rfl ?_
  refine hv_aload_n h dX2_exchange_15 2 rfl rfl ?_
  refine hv_get (C := RX2) (T := TX2) (N := 5) h 2 rfl rfl 1 (by decide) wu_X2 w_fieldLink_X2_17 (fun _ h9 => h9) rfl dX2_exchange_16 ?_
  refine hv_iload_n h dX2_exchange_19 4 rfl rfl ?_
  refine hv_aload_n h dX2_exchange_20 3 rfl rfl ?_
  refine hv_iload_n h dX2_exchange_21 1 rfl rfl ?_
  refine hv_aald (v := .ref (g (13 + (sol sg)))) h 1 1 rfl rfl (vp_in_nI (by omega) (by decide)) (by rw [nI_clamp (by omega)]; rfl) dX2_exchange_22 ?_
  refine hv_aast (ws' := (hsW g cI cC cols sol (va_up oth p (sol sg)) out num od dn tb lf tk en m0 m1 m2 m3 m4)) h 4 1 (13 + (sol sg)) rfl rfl (hsW_cell (hsol sg (by omega))) rfl (vp_in_nI (by omega) (by decide)) dX2_exchange_23 (by rw [nI_clamp (by omega), hs_upo]; rfl) ?_
  refine hv_aload_n h dX2_exchange_24 3 rfl rfl ?_
  refine hv_iload_n h dX2_exchange_25 1 rfl rfl ?_
  refine hv_aload h dX2_exchange_26 0 rfl ?_
  refine hv_aast (ws' := (hsW g cI cC cols (va_up sol sg (oth p)) (va_up oth p (sol sg)) out num od dn tb lf tk en m0 m1 m2 m3 m4)) h 1 1 (13 + (oth p)) rfl rfl (hsW_cell (hoth p (by omega))) rfl (vp_in_nI (by omega) (by decide)) dX2_exchange_28 (by rw [nI_clamp (by omega), hs_upo]; rfl) ?_
  refine hv_iload_n h dX2_exchange_29 1 rfl rfl ?_
  exact hv_iret h hr hlk hQ dX2_exchange_30 ⟨rfl, rfl⟩
abbrev rX2_keep : Room := { frames := 0, cells := 0, slots := 0, locals := 0 }
set_option maxHeartbeats 1000000 in
set_option maxRecDepth 100000 in
theorem k_X2_keep (l : Launch) (D : va_G) (cI cC : ClassId) (g : Nat → Nat) (cols : Nat → Nat → Int32) (sol oth : Nat → Nat) (out : Nat) (num : Nat → Int32) (o d t : Nat) (lf tk : Nat → Int32) (en : Int32) (m0 m1 m2 m3 m4 : Nat × va_E) (n0 : Int32) (bj : Nat) (ho : o < 12) (hd : d ≤ 12) (hbj : bj < 20) (hoth : ∀ i, i < 12 → oth i < 20) : hsQ l yX2_keep wsX2_keep rX2_keep D vwCl (hsT cI cC) [.ref (g 2), .int n0, .ref (g (13 + bj))] (hsW g cI cC cols sol oth out num (nI o) (nI d) (nI t) lf tk en m0 m1 m2 m3 m4) (fun r w => r = g (13 + oth (hq_p o d)) ∧ w = (hsW g cI cC cols sol (va_up oth (hq_p o d) bj) out (upd num (hq_p o d) n0) (nI (hq_o o d)) (nI (hq_d d + 1)) 0 lf tk en m0 m1 m2 m3 m4)) := by
  refine hsQ.enter (cc := cX2_keep) (maxL := 5) (ret := (some (.object "HewnSolids$Cells"))) (by decide) rfl (Nat.le_of_ble_eq_true rfl) ?_
  intro Pg En Ss Mi Ar Be Me Co AA QQ hQ h hr hlk
  refine hs_lv (lv' := [(0, .ref (g 2)), (1, .int n0), (2, .ref (g (13 + bj)))]) rfl ?_
  refine hv_aload_n h dX2_keep_0 0 rfl rfl ?_
  refine hv_get (C := RX2) (T := TX2) (N := 5) h 2 rfl rfl 3 (by decide) wu_X2 w_fieldLink_X2_22 (fun _ h9 => h9) rfl dX2_keep_1 ?_
  refine hv_bipush h (12) dX2_keep_4 (by decide) ?_
  refine hv_icmp_ne h 32 dX2_keep_6 rfl (fun c6 => ?_) (fun c6 => ?_)
  · have hdn : ¬ d = 12 := fun q => c6 (by rw [q]; rfl)
    have hdl : d < 12 := by omega
    refine hv_aload_n h dX2_keep_32 0 rfl rfl ?_
    refine hv_get (C := RX2) (T := TX2) (N := 5) h 2 rfl rfl 2 (by decide) wu_X2 w_fieldLink_X2_26 (fun _ h9 => h9) rfl dX2_keep_33 ?_
    refine hv_aload_n h dX2_keep_36 0 rfl rfl ?_
    refine hv_get (C := RX2) (T := TX2) (N := 5) h 2 rfl rfl 3 (by decide) wu_X2 w_fieldLink_X2_22 (fun _ h9 => h9) rfl dX2_keep_37 ?_
    refine hw_iadd h (nI (o + d)) dX2_keep_40 (nI_add o d) ?_
    refine hv_bipush h (12) dX2_keep_41 (by decide) ?_
    refine hw_irem h (nI ((o + d) % 12)) dX2_keep_43 (by decide) (pk_rem (by omega) (by decide) (by decide)) ?_
    refine hv_istore_n h [(3, .int (nI ((o + d) % 12))), (0, .ref (g 2)), (1, .int n0), (2, .ref (g (13 + bj)))] dX2_keep_44 rfl (by decide) rfl ?_
    refine hv_aload_n h dX2_keep_45 1 rfl rfl ?_
    refine hv_get (C := RX2) (T := TX2) (N := 5) h 2 rfl rfl 1 (by decide) wu_X2 w_fieldLink_X2_17 (fun _ h9 => h9) rfl dX2_keep_46 ?_
    refine hv_iload_n h dX2_keep_49 0 rfl rfl ?_
    refine hv_aald (v := .ref (g (13 + (oth ((o + d) % 12))))) h 4 1 rfl rfl (vp_in_nI (by omega) (by decide)) (by rw [nI_clamp (by omega)]; rfl) dX2_keep_50 ?_
    refine hv_astore h [(4, .ref (g (13 + (oth ((o + d) % 12))))), (3, .int (nI ((o + d) % 12))), (0, .ref (g 2)), (1, .int n0), (2, .ref (g (13 + bj)))] dX2_keep_51 (by decide) rfl ?_
    refine hv_aload_n h dX2_keep_53 2 rfl rfl ?_
    refine hv_get (C := RX2) (T := TX2) (N := 5) h 2 rfl rfl 0 (by decide) wu_X2 w_fieldLink_X2_9 (fun _ h9 => h9) rfl dX2_keep_54 ?_
    refine hv_iload_n h dX2_keep_57 1 rfl rfl ?_
    refine hv_iload_n h dX2_keep_58 3 rfl rfl ?_
    refine hv_iast (ws' := (hsW g cI cC cols sol oth out (upd num ((o + d) % 12) n0) (nI o) (nI d) (nI t) lf tk en m0 m1 m2 m3 m4)) h 3 0 rfl rfl (vp_in_nI (by omega) (by decide)) dX2_keep_59 (by rw [nI_clamp (by omega)]; rfl) ?_
    refine hv_aload_n h dX2_keep_60 2 rfl rfl ?_
    refine hv_get (C := RX2) (T := TX2) (N := 5) h 2 rfl rfl 1 (by decide) wu_X2 w_fieldLink_X2_17 (fun _ h9 => h9) rfl dX2_keep_61 ?_
    refine hv_iload_n h dX2_keep_64 1 rfl rfl ?_
    refine hv_aload_n h dX2_keep_65 4 rfl rfl ?_
    refine hv_aast (ws' := (hsW g cI cC cols sol (va_up oth ((o + d) % 12) bj) out (upd num ((o + d) % 12) n0) (nI o) (nI d) (nI t) lf tk en m0 m1 m2 m3 m4)) h 4 1 (13 + bj) rfl rfl (hsW_cell hbj) rfl (vp_in_nI (by omega) (by decide)) dX2_keep_66 (by rw [nI_clamp (by omega), hs_upo]; rfl) ?_
    refine hv_aload_n h dX2_keep_67 2 rfl rfl ?_
    refine hv_dup h dX2_keep_68 rfl ?_
    refine hv_get (C := RX2) (T := TX2) (N := 5) h 2 rfl rfl 3 (by decide) wu_X2 w_fieldLink_X2_22 (fun _ h9 => h9) rfl dX2_keep_69 ?_
    refine hv_iconst h (1) dX2_keep_72 (by decide) ?_
    refine hw_iadd h (nI (d + 1)) dX2_keep_73 (nI_add d 1) ?_
    refine hv_put (ws' := (hsW g cI cC cols sol (va_up oth ((o + d) % 12) bj) out (upd num ((o + d) % 12) n0) (nI o) (nI (d + 1)) (nI t) lf tk en m0 m1 m2 m3 m4)) (ty := .int) (C := RX2) (T := TX2) (N := 5) h 2 rfl rfl 3 (by decide) wu_X2 tyX2 tyX2_ok nX2 w_fieldLink_X2_22 (fun _ h9 => h9) rfl (by decide +kernel) rfl rfl (Nat.le_of_ble_eq_true rfl) dX2_keep_74 rfl ?_
    refine hv_aload_n h dX2_keep_77 2 rfl rfl ?_
    refine hv_iconst h (0) dX2_keep_78 (by decide) ?_
    refine hv_put (ws' := (hsW g cI cC cols sol (va_up oth ((o + d) % 12) bj) out (upd num ((o + d) % 12) n0) (nI o) (nI (d + 1)) 0 lf tk en m0 m1 m2 m3 m4)) (ty := .int) (C := RX2) (T := TX2) (N := 5) h 2 rfl rfl 4 (by decide) wu_X2 tyX2 tyX2_ok nX2 w_fieldLink_X2_29 (fun _ h9 => h9) rfl (by decide +kernel) rfl rfl (Nat.le_of_ble_eq_true rfl) dX2_keep_79 rfl ?_
    refine hv_aload h dX2_keep_82 0 rfl ?_
    exact hv_aret h hr hlk hQ dX2_keep_84 ⟨(by simp [hq_p, hq_o, hq_d, hdn]), (by simp [hq_p, hq_o, hq_d, hdn])⟩
  · obtain rfl : d = 12 := (nI_eq (a := d) (b := 12) (by omega) (by decide)).mp c6
    refine hv_aload_n h dX2_keep_9 0 rfl rfl ?_
    refine hv_aload_n h dX2_keep_10 0 rfl rfl ?_
    refine hv_get (C := RX2) (T := TX2) (N := 5) h 2 rfl rfl 2 (by decide) wu_X2 w_fieldLink_X2_26 (fun _ h9 => h9) rfl dX2_keep_11 ?_
    refine hv_iconst h (1) dX2_keep_14 (by decide) ?_
    refine hw_iadd h (nI (o + 1)) dX2_keep_15 (nI_add o 1) ?_
    refine hv_bipush h (12) dX2_keep_16 (by decide) ?_
    refine hw_irem h (nI ((o + 1) % 12)) dX2_keep_18 (by decide) (pk_rem (by omega) (by decide) (by decide)) ?_
    refine hv_put (ws' := (hsW g cI cC cols sol oth out num (nI ((o + 1) % 12)) (nI (11 + 1)) (nI t) lf tk en m0 m1 m2 m3 m4)) (ty := .int) (C := RX2) (T := TX2) (N := 5) h 2 rfl rfl 2 (by decide) wu_X2 tyX2 tyX2_ok nX2 w_fieldLink_X2_26 (fun _ h9 => h9) rfl (by decide +kernel) rfl rfl (Nat.le_of_ble_eq_true rfl) dX2_keep_19 rfl ?_
    refine hv_aload_n h dX2_keep_22 0 rfl rfl ?_
    refine hv_dup h dX2_keep_23 rfl ?_
    refine hv_get (C := RX2) (T := TX2) (N := 5) h 2 rfl rfl 3 (by decide) wu_X2 w_fieldLink_X2_22 (fun _ h9 => h9) rfl dX2_keep_24 ?_
    refine hv_iconst h (1) dX2_keep_27 (by decide) ?_
    refine hw_isub h (nI 11) dX2_keep_28 (nI_pred _) ?_
    refine hv_put (ws' := (hsW g cI cC cols sol oth out num (nI ((o + 1) % 12)) (nI 11) (nI t) lf tk en m0 m1 m2 m3 m4)) (ty := .int) (C := RX2) (T := TX2) (N := 5) h 2 rfl rfl 3 (by decide) wu_X2 tyX2 tyX2_ok nX2 w_fieldLink_X2_22 (fun _ h9 => h9) rfl (by decide +kernel) rfl rfl (Nat.le_of_ble_eq_true rfl) dX2_keep_29 rfl ?_
    refine hv_aload_n h dX2_keep_32 0 rfl rfl ?_
    refine hv_get (C := RX2) (T := TX2) (N := 5) h 2 rfl rfl 2 (by decide) wu_X2 w_fieldLink_X2_26 (fun _ h9 => h9) rfl dX2_keep_33 ?_
    refine hv_aload_n h dX2_keep_36 0 rfl rfl ?_
    refine hv_get (C := RX2) (T := TX2) (N := 5) h 2 rfl rfl 3 (by decide) wu_X2 w_fieldLink_X2_22 (fun _ h9 => h9) rfl dX2_keep_37 ?_
    refine hw_iadd h (nI (((o + 1) % 12) + 11)) dX2_keep_40 (nI_add ((o + 1) % 12) 11) ?_
    refine hv_bipush h (12) dX2_keep_41 (by decide) ?_
    refine hw_irem h (nI ((((o + 1) % 12) + 11) % 12)) dX2_keep_43 (by decide) (pk_rem (by omega) (by decide) (by decide)) ?_
    refine hv_istore_n h [(3, .int (nI ((((o + 1) % 12) + 11) % 12))), (0, .ref (g 2)), (1, .int n0), (2, .ref (g (13 + bj)))] dX2_keep_44 rfl (by decide) rfl ?_
    refine hv_aload_n h dX2_keep_45 1 rfl rfl ?_
    refine hv_get (C := RX2) (T := TX2) (N := 5) h 2 rfl rfl 1 (by decide) wu_X2 w_fieldLink_X2_17 (fun _ h9 => h9) rfl dX2_keep_46 ?_
    refine hv_iload_n h dX2_keep_49 0 rfl rfl ?_
    refine hv_aald (v := .ref (g (13 + (oth ((((o + 1) % 12) + 11) % 12))))) h 4 1 rfl rfl (vp_in_nI (by omega) (by decide)) (by rw [nI_clamp (by omega)]; rfl) dX2_keep_50 ?_
    refine hv_astore h [(4, .ref (g (13 + (oth ((((o + 1) % 12) + 11) % 12))))), (3, .int (nI ((((o + 1) % 12) + 11) % 12))), (0, .ref (g 2)), (1, .int n0), (2, .ref (g (13 + bj)))] dX2_keep_51 (by decide) rfl ?_
    refine hv_aload_n h dX2_keep_53 2 rfl rfl ?_
    refine hv_get (C := RX2) (T := TX2) (N := 5) h 2 rfl rfl 0 (by decide) wu_X2 w_fieldLink_X2_9 (fun _ h9 => h9) rfl dX2_keep_54 ?_
    refine hv_iload_n h dX2_keep_57 1 rfl rfl ?_
    refine hv_iload_n h dX2_keep_58 3 rfl rfl ?_
    refine hv_iast (ws' := (hsW g cI cC cols sol oth out (upd num ((((o + 1) % 12) + 11) % 12) n0) (nI ((o + 1) % 12)) (nI 11) (nI t) lf tk en m0 m1 m2 m3 m4)) h 3 0 rfl rfl (vp_in_nI (by omega) (by decide)) dX2_keep_59 (by rw [nI_clamp (by omega)]; rfl) ?_
    refine hv_aload_n h dX2_keep_60 2 rfl rfl ?_
    refine hv_get (C := RX2) (T := TX2) (N := 5) h 2 rfl rfl 1 (by decide) wu_X2 w_fieldLink_X2_17 (fun _ h9 => h9) rfl dX2_keep_61 ?_
    refine hv_iload_n h dX2_keep_64 1 rfl rfl ?_
    refine hv_aload_n h dX2_keep_65 4 rfl rfl ?_
    refine hv_aast (ws' := (hsW g cI cC cols sol (va_up oth ((((o + 1) % 12) + 11) % 12) bj) out (upd num ((((o + 1) % 12) + 11) % 12) n0) (nI ((o + 1) % 12)) (nI 11) (nI t) lf tk en m0 m1 m2 m3 m4)) h 4 1 (13 + bj) rfl rfl (hsW_cell hbj) rfl (vp_in_nI (by omega) (by decide)) dX2_keep_66 (by rw [nI_clamp (by omega), hs_upo]; rfl) ?_
    refine hv_aload_n h dX2_keep_67 2 rfl rfl ?_
    refine hv_dup h dX2_keep_68 rfl ?_
    refine hv_get (C := RX2) (T := TX2) (N := 5) h 2 rfl rfl 3 (by decide) wu_X2 w_fieldLink_X2_22 (fun _ h9 => h9) rfl dX2_keep_69 ?_
    refine hv_iconst h (1) dX2_keep_72 (by decide) ?_
    refine hw_iadd h (nI (11 + 1)) dX2_keep_73 (nI_add 11 1) ?_
    refine hv_put (ws' := (hsW g cI cC cols sol (va_up oth ((((o + 1) % 12) + 11) % 12) bj) out (upd num ((((o + 1) % 12) + 11) % 12) n0) (nI ((o + 1) % 12)) (nI (11 + 1)) (nI t) lf tk en m0 m1 m2 m3 m4)) (ty := .int) (C := RX2) (T := TX2) (N := 5) h 2 rfl rfl 3 (by decide) wu_X2 tyX2 tyX2_ok nX2 w_fieldLink_X2_22 (fun _ h9 => h9) rfl (by decide +kernel) rfl rfl (Nat.le_of_ble_eq_true rfl) dX2_keep_74 rfl ?_
    refine hv_aload_n h dX2_keep_77 2 rfl rfl ?_
    refine hv_iconst h (0) dX2_keep_78 (by decide) ?_
    refine hv_put (ws' := (hsW g cI cC cols sol (va_up oth ((((o + 1) % 12) + 11) % 12) bj) out (upd num ((((o + 1) % 12) + 11) % 12) n0) (nI ((o + 1) % 12)) (nI (11 + 1)) 0 lf tk en m0 m1 m2 m3 m4)) (ty := .int) (C := RX2) (T := TX2) (N := 5) h 2 rfl rfl 4 (by decide) wu_X2 tyX2 tyX2_ok nX2 w_fieldLink_X2_29 (fun _ h9 => h9) rfl (by decide +kernel) rfl rfl (Nat.le_of_ble_eq_true rfl) dX2_keep_79 rfl ?_
    refine hv_aload h dX2_keep_82 0 rfl ?_
    exact hv_aret h hr hlk hQ dX2_keep_84 ⟨rfl, rfl⟩
abbrev rX2_takeBack : Room := { frames := 1, cells := 0, slots := 0, locals := 24 }
set_option maxHeartbeats 1000000 in
set_option maxRecDepth 100000 in
theorem k_X2_takeBack_0 (l : Launch) (D : va_G) (cI cC : ClassId) (g : Nat → Nat) (cols : Nat → Nat → Int32) (sol oth : Nat → Nat) (out : Nat) (num : Nat → Int32) (o t : Nat) (lf tk : Nat → Int32) (en : Int32) (m0 m1 m2 m3 m4 : Nat × va_E)   : hsI l yX2_takeBack wsX2_takeBack rX2_takeBack D vwCl (hsT cI cC) [.ref (g 2), .ref (g 1)] (hsW g cI cC cols sol oth out num (nI o) (nI 0) (nI t) lf tk en m0 m1 m2 m3 m4) (fun r w => r = (-2) ∧ w = (hsW g cI cC cols sol oth out num (nI o) (nI 0) (nI t) lf tk en m0 m1 m2 m3 m4)) := by
  refine hsI.enter (cc := cX2_takeBack) (maxL := 2) (ret := (some .int)) (by decide) rfl (Nat.le_of_ble_eq_true rfl) ?_
  intro Pg En Ss Mi Ar Be Me Co AA QQ hQ h hr hlk
  refine hs_lv (lv' := [(0, .ref (g 2)), (1, .ref (g 1))]) rfl ?_
  refine hv_aload_n h dX2_takeBack_0 0 rfl rfl ?_
  refine hv_get (C := RX2) (T := TX2) (N := 5) h 2 rfl rfl 3 (by decide) wu_X2 w_fieldLink_X2_22 (fun _ h9 => h9) rfl dX2_takeBack_1 ?_
  refine hv_if_ne h 10 dX2_takeBack_4 rfl (fun hc => absurd rfl hc) (fun c4 => ?_)
  refine hv_bipush h ((-2)) dX2_takeBack_7 (by decide) ?_
  exact hv_iret h hr hlk hQ dX2_takeBack_9 ⟨rfl, rfl⟩
set_option maxHeartbeats 1000000 in
set_option maxRecDepth 100000 in
theorem k_X2_takeBack_1 (l : Launch) (D : va_G) (cI cC : ClassId) (g : Nat → Nat) (cols : Nat → Nat → Int32) (sol oth : Nat → Nat) (out : Nat) (num : Nat → Int32) (o d t : Nat) (lf tk : Nat → Int32) (en : Int32) (m0 m1 m2 m3 m4 : Nat × va_E) (sg : Nat)  (ho : o < 12) (hd : d < 12) (ht : t < 12) (hn : num ((o + d) % 12) = nI sg) (hsg : sg < 6) (hsol : ∀ i, i < 6 → sol i < 20) (hoth : ∀ i, i < 12 → oth i < 20) : hsI l yX2_takeBack wsX2_takeBack rX2_takeBack D vwCl (hsT cI cC) [.ref (g 2), .ref (g 1)] (hsW g cI cC cols sol oth out num (nI o) (nI (d + 1)) (nI t) lf tk en m0 m1 m2 m3 m4) (fun r w => r = nI sg ∧ w = (hsW g cI cC cols (va_up sol sg (oth ((o + d) % 12))) (va_up oth ((o + d) % 12) (sol sg)) out num (nI o) (nI d) (nI (t + 1)) lf tk en m0 m1 m2 m3 m4)) := by
  refine hsI.enter (cc := cX2_takeBack) (maxL := 2) (ret := (some .int)) (by decide) rfl (Nat.le_of_ble_eq_true rfl) ?_
  intro Pg En Ss Mi Ar Be Me Co AA QQ hQ h hr hlk
  refine hs_lv (lv' := [(0, .ref (g 2)), (1, .ref (g 1))]) rfl ?_
  refine hv_aload_n h dX2_takeBack_0 0 rfl rfl ?_
  refine hv_get (C := RX2) (T := TX2) (N := 5) h 2 rfl rfl 3 (by decide) wu_X2 w_fieldLink_X2_22 (fun _ h9 => h9) rfl dX2_takeBack_1 ?_
  refine hv_if_ne h 10 dX2_takeBack_4 rfl (fun c4 => ?_) (fun hc => absurd hc (nI_ne0 (by omega) (by omega)))
  refine hv_aload_n h dX2_takeBack_10 0 rfl rfl ?_
  refine hv_dup h dX2_takeBack_11 rfl ?_
  refine hv_get (C := RX2) (T := TX2) (N := 5) h 2 rfl rfl 3 (by decide) wu_X2 w_fieldLink_X2_22 (fun _ h9 => h9) rfl dX2_takeBack_12 ?_
  refine hv_iconst h (1) dX2_takeBack_15 (by decide) ?_
  refine hw_isub h (nI d) dX2_takeBack_16 (nI_pred _) ?_
  refine hv_put (ws' := (hsW g cI cC cols sol oth out num (nI o) (nI d) (nI t) lf tk en m0 m1 m2 m3 m4)) (ty := .int) (C := RX2) (T := TX2) (N := 5) h 2 rfl rfl 3 (by decide) wu_X2 tyX2 tyX2_ok nX2 w_fieldLink_X2_22 (fun _ h9 => h9) rfl (by decide +kernel) rfl rfl (Nat.le_of_ble_eq_true rfl) dX2_takeBack_17 rfl ?_
  refine hv_aload_n h dX2_takeBack_20 0 rfl rfl ?_
  refine hv_dup h dX2_takeBack_21 rfl ?_
  refine hv_get (C := RX2) (T := TX2) (N := 5) h 2 rfl rfl 4 (by decide) wu_X2 w_fieldLink_X2_29 (fun _ h9 => h9) rfl dX2_takeBack_22 ?_
  refine hv_iconst h (1) dX2_takeBack_25 (by decide) ?_
  refine hw_iadd h (nI (t + 1)) dX2_takeBack_26 (nI_add t 1) ?_
  refine hv_put (ws' := (hsW g cI cC cols sol oth out num (nI o) (nI d) (nI (t + 1)) lf tk en m0 m1 m2 m3 m4)) (ty := .int) (C := RX2) (T := TX2) (N := 5) h 2 rfl rfl 4 (by decide) wu_X2 tyX2 tyX2_ok nX2 w_fieldLink_X2_29 (fun _ h9 => h9) rfl (by decide +kernel) rfl rfl (Nat.le_of_ble_eq_true rfl) dX2_takeBack_27 rfl ?_
  refine hv_aload_n h dX2_takeBack_30 0 rfl rfl ?_
  refine hv_aload_n h dX2_takeBack_31 1 rfl rfl ?_
  refine hv_aload_n h dX2_takeBack_32 0 rfl rfl ?_
  refine hv_get (C := RX2) (T := TX2) (N := 5) h 2 rfl rfl 2 (by decide) wu_X2 w_fieldLink_X2_26 (fun _ h9 => h9) rfl dX2_takeBack_33 ?_
  refine hv_aload_n h dX2_takeBack_36 0 rfl rfl ?_
  refine hv_get (C := RX2) (T := TX2) (N := 5) h 2 rfl rfl 3 (by decide) wu_X2 w_fieldLink_X2_22 (fun _ h9 => h9) rfl dX2_takeBack_37 ?_
  refine hw_iadd h (nI (o + d)) dX2_takeBack_40 (nI_add o d) ?_
  refine hv_bipush h (12) dX2_takeBack_41 (by decide) ?_
  refine hw_irem h (nI ((o + d) % 12)) dX2_takeBack_43 (by decide) (pk_rem (by omega) (by decide) (by decide)) ?_
  refine hv_callp (ws' := (hsW g cI cC cols (va_up sol sg (oth ((o + d) % 12))) (va_up oth ((o + d) % 12) (sol sg)) out num (nI o) (nI d) (nI (t + 1)) lf tk en m0 m1 m2 m3 m4)) (v := nI sg) h (hr_Vi (n := 2) (rest := []) h 2 rfl rfl (k_X2_exchange l D cI cC g cols sol oth out num (nI o) (nI d) (nI (t + 1)) lf tk en m0 m1 m2 m3 m4 sg ((o + d) % 12) (by omega) hn hsg hsol hoth) w_methodLink_X2_32 w_instanceMethod_X2_exchange w_selects_X2_exchange w_initialized_X2 w_code_X2_exchange (by decide +kernel) rfl rfl rfl ⟨by decide, by decide⟩ rfl (Nat.le_of_ble_eq_true rfl) ⟨Nat.zero_le _, Nat.zero_le _⟩ dX2_takeBack_44) ?_
  exact hv_iret h hr hlk hQ dX2_takeBack_47 ⟨rfl, rfl⟩
abbrev rX2_doAgain : Room := { frames := 1, cells := 0, slots := 0, locals := 24 }
set_option maxHeartbeats 1000000 in
set_option maxRecDepth 100000 in
theorem k_X2_doAgain_0 (l : Launch) (D : va_G) (cI cC : ClassId) (g : Nat → Nat) (cols : Nat → Nat → Int32) (sol oth : Nat → Nat) (out : Nat) (num : Nat → Int32) (o d : Nat) (lf tk : Nat → Int32) (en : Int32) (m0 m1 m2 m3 m4 : Nat × va_E)   : hsI l yX2_doAgain wsX2_doAgain rX2_doAgain D vwCl (hsT cI cC) [.ref (g 2), .ref (g 1)] (hsW g cI cC cols sol oth out num (nI o) (nI d) (nI 0) lf tk en m0 m1 m2 m3 m4) (fun r w => r = (-2) ∧ w = (hsW g cI cC cols sol oth out num (nI o) (nI d) (nI 0) lf tk en m0 m1 m2 m3 m4)) := by
  refine hsI.enter (cc := cX2_doAgain) (maxL := 3) (ret := (some .int)) (by decide) rfl (Nat.le_of_ble_eq_true rfl) ?_
  intro Pg En Ss Mi Ar Be Me Co AA QQ hQ h hr hlk
  refine hs_lv (lv' := [(0, .ref (g 2)), (1, .ref (g 1))]) rfl ?_
  refine hv_aload_n h dX2_doAgain_0 0 rfl rfl ?_
  refine hv_get (C := RX2) (T := TX2) (N := 5) h 2 rfl rfl 4 (by decide) wu_X2 w_fieldLink_X2_29 (fun _ h9 => h9) rfl dX2_doAgain_1 ?_
  refine hv_if_ne h 10 dX2_doAgain_4 rfl (fun hc => absurd rfl hc) (fun c4 => ?_)
  refine hv_bipush h ((-2)) dX2_doAgain_7 (by decide) ?_
  exact hv_iret h hr hlk hQ dX2_doAgain_9 ⟨rfl, rfl⟩
set_option maxHeartbeats 1000000 in
set_option maxRecDepth 100000 in
theorem k_X2_doAgain_1 (l : Launch) (D : va_G) (cI cC : ClassId) (g : Nat → Nat) (cols : Nat → Nat → Int32) (sol oth : Nat → Nat) (out : Nat) (num : Nat → Int32) (o d t : Nat) (lf tk : Nat → Int32) (en : Int32) (m0 m1 m2 m3 m4 : Nat × va_E) (sg : Nat)  (ho : o < 12) (hd : d < 12) (ht : t < 12) (hn : num ((o + d) % 12) = nI sg) (hsg : sg < 6) (hsol : ∀ i, i < 6 → sol i < 20) (hoth : ∀ i, i < 12 → oth i < 20) : hsI l yX2_doAgain wsX2_doAgain rX2_doAgain D vwCl (hsT cI cC) [.ref (g 2), .ref (g 1)] (hsW g cI cC cols sol oth out num (nI o) (nI d) (nI (t + 1)) lf tk en m0 m1 m2 m3 m4) (fun r w => r = nI sg ∧ w = (hsW g cI cC cols (va_up sol sg (oth ((o + d) % 12))) (va_up oth ((o + d) % 12) (sol sg)) out num (nI o) (nI (d + 1)) (nI t) lf tk en m0 m1 m2 m3 m4)) := by
  refine hsI.enter (cc := cX2_doAgain) (maxL := 3) (ret := (some .int)) (by decide) rfl (Nat.le_of_ble_eq_true rfl) ?_
  intro Pg En Ss Mi Ar Be Me Co AA QQ hQ h hr hlk
  refine hs_lv (lv' := [(0, .ref (g 2)), (1, .ref (g 1))]) rfl ?_
  refine hv_aload_n h dX2_doAgain_0 0 rfl rfl ?_
  refine hv_get (C := RX2) (T := TX2) (N := 5) h 2 rfl rfl 4 (by decide) wu_X2 w_fieldLink_X2_29 (fun _ h9 => h9) rfl dX2_doAgain_1 ?_
  refine hv_if_ne h 10 dX2_doAgain_4 rfl (fun c4 => ?_) (fun hc => absurd hc (nI_ne0 (by omega) (by omega)))
  refine hv_aload_n h dX2_doAgain_10 0 rfl rfl ?_
  refine hv_get (C := RX2) (T := TX2) (N := 5) h 2 rfl rfl 2 (by decide) wu_X2 w_fieldLink_X2_26 (fun _ h9 => h9) rfl dX2_doAgain_11 ?_
  refine hv_aload_n h dX2_doAgain_14 0 rfl rfl ?_
  refine hv_get (C := RX2) (T := TX2) (N := 5) h 2 rfl rfl 3 (by decide) wu_X2 w_fieldLink_X2_22 (fun _ h9 => h9) rfl dX2_doAgain_15 ?_
  refine hw_iadd h (nI (o + d)) dX2_doAgain_18 (nI_add o d) ?_
  refine hv_bipush h (12) dX2_doAgain_19 (by decide) ?_
  refine hw_irem h (nI ((o + d) % 12)) dX2_doAgain_21 (by decide) (pk_rem (by omega) (by decide) (by decide)) ?_
  refine hv_istore_n h [(2, .int (nI ((o + d) % 12))), (0, .ref (g 2)), (1, .ref (g 1))] dX2_doAgain_22 rfl (by decide) rfl ?_
  refine hv_aload_n h dX2_doAgain_23 1 rfl rfl ?_
  refine hv_dup h dX2_doAgain_24 rfl ?_
  refine hv_get (C := RX2) (T := TX2) (N := 5) h 2 rfl rfl 3 (by decide) wu_X2 w_fieldLink_X2_22 (fun _ h9 => h9) rfl dX2_doAgain_25 ?_
  refine hv_iconst h (1) dX2_doAgain_28 (by decide) ?_
  refine hw_iadd h (nI (d + 1)) dX2_doAgain_29 (nI_add d 1) ?_
  refine hv_put (ws' := (hsW g cI cC cols sol oth out num (nI o) (nI (d + 1)) (nI (t + 1)) lf tk en m0 m1 m2 m3 m4)) (ty := .int) (C := RX2) (T := TX2) (N := 5) h 2 rfl rfl 3 (by decide) wu_X2 tyX2 tyX2_ok nX2 w_fieldLink_X2_22 (fun _ h9 => h9) rfl (by decide +kernel) rfl rfl (Nat.le_of_ble_eq_true rfl) dX2_doAgain_30 rfl ?_
  refine hv_aload_n h dX2_doAgain_33 1 rfl rfl ?_
  refine hv_dup h dX2_doAgain_34 rfl ?_
  refine hv_get (C := RX2) (T := TX2) (N := 5) h 2 rfl rfl 4 (by decide) wu_X2 w_fieldLink_X2_29 (fun _ h9 => h9) rfl dX2_doAgain_35 ?_
  refine hv_iconst h (1) dX2_doAgain_38 (by decide) ?_
  refine hw_isub h (nI t) dX2_doAgain_39 (nI_pred _) ?_
  refine hv_put (ws' := (hsW g cI cC cols sol oth out num (nI o) (nI (d + 1)) (nI t) lf tk en m0 m1 m2 m3 m4)) (ty := .int) (C := RX2) (T := TX2) (N := 5) h 2 rfl rfl 4 (by decide) wu_X2 tyX2 tyX2_ok nX2 w_fieldLink_X2_29 (fun _ h9 => h9) rfl (by decide +kernel) rfl rfl (Nat.le_of_ble_eq_true rfl) dX2_doAgain_40 rfl ?_
  refine hv_aload_n h dX2_doAgain_43 1 rfl rfl ?_
  refine hv_aload_n h dX2_doAgain_44 2 rfl rfl ?_
  refine hv_iload_n h dX2_doAgain_45 0 rfl rfl ?_
  refine hv_callp (ws' := (hsW g cI cC cols (va_up sol sg (oth ((o + d) % 12))) (va_up oth ((o + d) % 12) (sol sg)) out num (nI o) (nI (d + 1)) (nI t) lf tk en m0 m1 m2 m3 m4)) (v := nI sg) h (hr_Vi (n := 2) (rest := []) h 2 rfl rfl (k_X2_exchange l D cI cC g cols sol oth out num (nI o) (nI (d + 1)) (nI t) lf tk en m0 m1 m2 m3 m4 sg ((o + d) % 12) (by omega) hn hsg hsol hoth) w_methodLink_X2_32 w_instanceMethod_X2_exchange w_selects_X2_exchange w_initialized_X2 w_code_X2_exchange (by decide +kernel) rfl rfl rfl ⟨by decide, by decide⟩ rfl (Nat.le_of_ble_eq_true rfl) ⟨Nat.zero_le _, Nat.zero_le _⟩ dX2_doAgain_46) ?_
  exact hv_iret h hr hlk hQ dX2_doAgain_49 ⟨rfl, rfl⟩
abbrev rX0_takeStep : Room := { frames := 2, cells := 0, slots := 0, locals := 42 }
set_option maxHeartbeats 1000000 in
set_option maxRecDepth 100000 in
theorem k_X0_takeStep (l : Launch) (D : va_G) (cI cC : ClassId) (g : Nat → Nat) (cols : Nat → Nat → Int32) (sol oth : Nat → Nat) (out : Nat) (num : Nat → Int32) (o d t : Nat) (lf tk : Nat → Int32) (en : Int32) (m0 m1 m2 m3 m4 : Nat × va_E) (s0 : Nat) (hs : s0 < 6) (ho : o < 12) (hd : d ≤ 12) (hsol : ∀ i, i < 6 → sol i < 20) (hoth : ∀ i, i < 12 → oth i < 20) (hout : out < 20) : hsI l yX0_takeStep wsX0_takeStep rX0_takeStep D vwCl (hsT cI cC) [.ref (g 0), .int (nI s0)] (hsW g cI cC cols sol oth out num (nI o) (nI d) (nI t) lf tk en m0 m1 m2 m3 m4) (fun r w => r = hx_cnt (cols out) ∧ w = (hsW g cI cC cols (va_up sol s0 out) (va_up oth (hq_p o d) (sol s0)) (oth (hq_p o d)) (upd num (hq_p o d) (nI s0)) (nI (hq_o o d)) (nI (hq_d d + 1)) 0 lf tk en m0 m1 m2 m3 m4)) := by
  refine hsI.enter (cc := cX0_takeStep) (maxL := 3) (ret := (some .int)) (by decide) rfl (Nat.le_of_ble_eq_true rfl) ?_
  intro Pg En Ss Mi Ar Be Me Co AA QQ hQ h hr hlk
  refine hs_lv (lv' := [(0, .ref (g 0)), (1, .int (nI s0))]) rfl ?_
  refine hv_aload_n h dX0_takeStep_0 0 rfl rfl ?_
  refine hv_get (C := RX0) (T := TX0) (N := 5) h 0 rfl rfl 0 (by decide) wu_X0 w_fieldLink_X0_11 (fun _ h9 => h9) rfl dX0_takeStep_1 ?_
  refine hv_iload_n h dX0_takeStep_4 1 rfl rfl ?_
  refine hv_aald (v := .ref (g (13 + (sol s0)))) h 1 1 rfl rfl (vp_in_nI (by omega) (by decide)) (by rw [nI_clamp (by omega)]; rfl) dX0_takeStep_5 ?_
  refine hv_astore_n h [(2, .ref (g (13 + (sol s0)))), (0, .ref (g 0)), (1, .int (nI s0))] dX0_takeStep_6 rfl (by decide) rfl ?_
  refine hv_aload_n h dX0_takeStep_7 1 rfl rfl ?_
  refine hv_get (C := RX0) (T := TX0) (N := 5) h 0 rfl rfl 0 (by decide) wu_X0 w_fieldLink_X0_11 (fun _ h9 => h9) rfl dX0_takeStep_8 ?_
  refine hv_iload_n h dX0_takeStep_11 2 rfl rfl ?_
  refine hv_aload_n h dX0_takeStep_12 1 rfl rfl ?_
  refine hv_get (C := RX0) (T := TX0) (N := 5) h 0 rfl rfl 4 (by decide) wu_X0 w_fieldLink_X0_34 (fun _ h9 => h9) rfl dX0_takeStep_13 ?_
  refine hv_aast (ws' := (hsW g cI cC cols (va_up sol s0 out) oth out num (nI o) (nI d) (nI t) lf tk en m0 m1 m2 m3 m4)) h 1 1 (13 + out) rfl rfl (hsW_cell hout) rfl (vp_in_nI (by omega) (by decide)) dX0_takeStep_16 (by rw [nI_clamp (by omega), hs_upo]; rfl) ?_
  refine hv_aload_n h dX0_takeStep_17 1 rfl rfl ?_
  refine hv_aload_n h dX0_takeStep_18 1 rfl rfl ?_
  refine hv_get (C := RX0) (T := TX0) (N := 5) h 0 rfl rfl 1 (by decide) wu_X0 w_fieldLink_X0_19 (fun _ h9 => h9) rfl dX0_takeStep_19 ?_
  refine hv_iload_n h dX0_takeStep_22 2 rfl rfl ?_
  refine hv_aload_n h dX0_takeStep_23 0 rfl rfl ?_
  refine hv_callq (ws' := (hsW g cI cC cols (va_up sol s0 out) (va_up oth (hq_p o d) (sol s0)) out (upd num (hq_p o d) (nI s0)) (nI (hq_o o d)) (nI (hq_d d + 1)) 0 lf tk en m0 m1 m2 m3 m4)) (v := g (13 + oth (hq_p o d))) h (hr_Vr (n := 2) (rest := [.ref (g 0)]) h 2 rfl rfl (k_X2_keep l D cI cC g cols (va_up sol s0 out) oth out num o d t lf tk en m0 m1 m2 m3 m4 (nI s0) (sol s0) ho hd (hsol s0 hs) hoth) w_methodLink_X0_148 w_instanceMethod_X2_keep w_selects_X2_keep w_initialized_X2 w_code_X2_keep (by decide +kernel) rfl rfl rfl ⟨by decide, by decide⟩ rfl (Nat.le_of_ble_eq_true rfl) ⟨Nat.zero_le _, Nat.zero_le _⟩ dX0_takeStep_24) ?_
  refine hv_put (ws' := (hsW g cI cC cols (va_up sol s0 out) (va_up oth (hq_p o d) (sol s0)) (oth (hq_p o d)) (upd num (hq_p o d) (nI s0)) (nI (hq_o o d)) (nI (hq_d d + 1)) 0 lf tk en m0 m1 m2 m3 m4)) (ty := .object "HewnSolids$Cells") (C := RX0) (T := TX0) (N := 5) h 0 rfl rfl 4 (by decide) wu_X0 tyX0 tyX0_ok nX0 w_fieldLink_X0_34 (fun _ h9 => h9) rfl (by decide +kernel) rfl rfl (Nat.le_of_ble_eq_true rfl) dX0_takeStep_27 rfl ?_
  refine hv_aload_n h dX0_takeStep_30 1 rfl rfl ?_
  refine hv_get (C := RX0) (T := TX0) (N := 5) h 0 rfl rfl 0 (by decide) wu_X0 w_fieldLink_X0_11 (fun _ h9 => h9) rfl dX0_takeStep_31 ?_
  refine hv_iload_n h dX0_takeStep_34 2 rfl rfl ?_
  refine hv_aald (v := .ref (g (13 + out))) h 1 1 rfl rfl (vp_in_nI (by omega) (by decide)) (by rw [nI_clamp (by omega)]; simp [va_rf, va_up]) dX0_takeStep_35 ?_
  refine hv_callp (ws' := (hsW g cI cC cols (va_up sol s0 out) (va_up oth (hq_p o d) (sol s0)) (oth (hq_p o d)) (upd num (hq_p o d) (nI s0)) (nI (hq_o o d)) (nI (hq_d d + 1)) 0 lf tk en m0 m1 m2 m3 m4)) (v := hx_cnt (cols out)) h (hr_Vi (n := 0) (rest := []) h (13 + out) (hsW_cell hout) rfl (k_X1_countCells l D cI cC (hsW g cI cC cols (va_up sol s0 out) (va_up oth (hq_p o d) (sol s0)) (oth (hq_p o d)) (upd num (hq_p o d) (nI s0)) (nI (hq_o o d)) (nI (hq_d d + 1)) 0 lf tk en m0 m1 m2 m3 m4) (13 + out) (33 + out) (g (13 + out)) (g (33 + out)) (cols out) (hsW_cell hout) (hsW_arr hout) ) w_methodLink_X0_89 w_instanceMethod_X1_countCells w_selects_X1_countCells w_initialized_X1 w_code_X1_countCells (by decide +kernel) rfl rfl rfl ⟨by decide, by decide⟩ rfl (Nat.le_of_ble_eq_true rfl) ⟨Nat.zero_le _, Nat.zero_le _⟩ dX0_takeStep_36) ?_
  exact hv_iret h hr hlk hQ dX0_takeStep_39 ⟨rfl, rfl⟩
abbrev rX0_undo : Room := { frames := 2, cells := 0, slots := 0, locals := 45 }
set_option maxHeartbeats 1000000 in
set_option maxRecDepth 100000 in
theorem k_X0_undo_0 (l : Launch) (D : va_G) (cI cC : ClassId) (g : Nat → Nat) (cols : Nat → Nat → Int32) (sol oth : Nat → Nat) (out : Nat) (num : Nat → Int32) (o t : Nat) (lf tk : Nat → Int32) (en : Int32) (m0 m1 m2 m3 m4 : Nat × va_E)   : hsI l yX0_undo wsX0_undo rX0_undo D vwCl (hsT cI cC) [.ref (g 0)] (hsW g cI cC cols sol oth out num (nI o) (nI 0) (nI t) lf tk en m0 m1 m2 m3 m4) (fun r w => r = (-2) ∧ w = (hsW g cI cC cols sol oth out num (nI o) (nI 0) (nI t) lf tk en m0 m1 m2 m3 m4)) := by
  refine hsI.enter (cc := cX0_undo) (maxL := 1) (ret := (some .int)) (by decide) rfl (Nat.le_of_ble_eq_true rfl) ?_
  intro Pg En Ss Mi Ar Be Me Co AA QQ hQ h hr hlk
  refine hs_lv (lv' := [(0, .ref (g 0))]) rfl ?_
  refine hv_aload_n h dX0_undo_0 0 rfl rfl ?_
  refine hv_get (C := RX0) (T := TX0) (N := 5) h 0 rfl rfl 1 (by decide) wu_X0 w_fieldLink_X0_19 (fun _ h9 => h9) rfl dX0_undo_1 ?_
  refine hv_aload_n h dX0_undo_4 0 rfl rfl ?_
  refine hv_get (C := RX0) (T := TX0) (N := 5) h 0 rfl rfl 0 (by decide) wu_X0 w_fieldLink_X0_11 (fun _ h9 => h9) rfl dX0_undo_5 ?_
  refine hv_callp (ws' := (hsW g cI cC cols sol oth out num (nI o) (nI 0) (nI t) lf tk en m0 m1 m2 m3 m4)) (v := (-2)) h (hr_Vi (n := 1) (rest := []) h 2 rfl rfl (k_X2_takeBack_0 l D cI cC g cols sol oth out num o t lf tk en m0 m1 m2 m3 m4) w_methodLink_X0_82 w_instanceMethod_X2_takeBack w_selects_X2_takeBack w_initialized_X2 w_code_X2_takeBack (by decide +kernel) rfl rfl rfl ⟨by decide, by decide⟩ rfl (Nat.le_of_ble_eq_true rfl) ⟨Nat.zero_le _, Nat.zero_le _⟩ dX0_undo_8) ?_
  exact hv_iret h hr hlk hQ dX0_undo_11 ⟨rfl, rfl⟩
set_option maxHeartbeats 1000000 in
set_option maxRecDepth 100000 in
theorem k_X0_undo_1 (l : Launch) (D : va_G) (cI cC : ClassId) (g : Nat → Nat) (cols : Nat → Nat → Int32) (sol oth : Nat → Nat) (out : Nat) (num : Nat → Int32) (o d t : Nat) (lf tk : Nat → Int32) (en : Int32) (m0 m1 m2 m3 m4 : Nat × va_E) (sg : Nat)  (ho : o < 12) (hd : d < 12) (ht : t < 12) (hn : num ((o + d) % 12) = nI sg) (hsg : sg < 6) (hsol : ∀ i, i < 6 → sol i < 20) (hoth : ∀ i, i < 12 → oth i < 20) : hsI l yX0_undo wsX0_undo rX0_undo D vwCl (hsT cI cC) [.ref (g 0)] (hsW g cI cC cols sol oth out num (nI o) (nI (d + 1)) (nI t) lf tk en m0 m1 m2 m3 m4) (fun r w => r = nI sg ∧ w = (hsW g cI cC cols (va_up sol sg (oth ((o + d) % 12))) (va_up oth ((o + d) % 12) (sol sg)) out num (nI o) (nI d) (nI (t + 1)) lf tk en m0 m1 m2 m3 m4)) := by
  refine hsI.enter (cc := cX0_undo) (maxL := 1) (ret := (some .int)) (by decide) rfl (Nat.le_of_ble_eq_true rfl) ?_
  intro Pg En Ss Mi Ar Be Me Co AA QQ hQ h hr hlk
  refine hs_lv (lv' := [(0, .ref (g 0))]) rfl ?_
  refine hv_aload_n h dX0_undo_0 0 rfl rfl ?_
  refine hv_get (C := RX0) (T := TX0) (N := 5) h 0 rfl rfl 1 (by decide) wu_X0 w_fieldLink_X0_19 (fun _ h9 => h9) rfl dX0_undo_1 ?_
  refine hv_aload_n h dX0_undo_4 0 rfl rfl ?_
  refine hv_get (C := RX0) (T := TX0) (N := 5) h 0 rfl rfl 0 (by decide) wu_X0 w_fieldLink_X0_11 (fun _ h9 => h9) rfl dX0_undo_5 ?_
  refine hv_callp (ws' := (hsW g cI cC cols (va_up sol sg (oth ((o + d) % 12))) (va_up oth ((o + d) % 12) (sol sg)) out num (nI o) (nI d) (nI (t + 1)) lf tk en m0 m1 m2 m3 m4)) (v := nI sg) h (hr_Vi (n := 1) (rest := []) h 2 rfl rfl (k_X2_takeBack_1 l D cI cC g cols sol oth out num o d t lf tk en m0 m1 m2 m3 m4 sg ho hd ht hn hsg hsol hoth) w_methodLink_X0_82 w_instanceMethod_X2_takeBack w_selects_X2_takeBack w_initialized_X2 w_code_X2_takeBack (by decide +kernel) rfl rfl rfl ⟨by decide, by decide⟩ rfl (Nat.le_of_ble_eq_true rfl) ⟨Nat.zero_le _, Nat.zero_le _⟩ dX0_undo_8) ?_
  exact hv_iret h hr hlk hQ dX0_undo_11 ⟨rfl, rfl⟩
abbrev rX0_redo : Room := { frames := 2, cells := 0, slots := 0, locals := 46 }
set_option maxHeartbeats 1000000 in
set_option maxRecDepth 100000 in
theorem k_X0_redo_0 (l : Launch) (D : va_G) (cI cC : ClassId) (g : Nat → Nat) (cols : Nat → Nat → Int32) (sol oth : Nat → Nat) (out : Nat) (num : Nat → Int32) (o d : Nat) (lf tk : Nat → Int32) (en : Int32) (m0 m1 m2 m3 m4 : Nat × va_E)   : hsI l yX0_redo wsX0_redo rX0_redo D vwCl (hsT cI cC) [.ref (g 0)] (hsW g cI cC cols sol oth out num (nI o) (nI d) (nI 0) lf tk en m0 m1 m2 m3 m4) (fun r w => r = (-2) ∧ w = (hsW g cI cC cols sol oth out num (nI o) (nI d) (nI 0) lf tk en m0 m1 m2 m3 m4)) := by
  refine hsI.enter (cc := cX0_redo) (maxL := 1) (ret := (some .int)) (by decide) rfl (Nat.le_of_ble_eq_true rfl) ?_
  intro Pg En Ss Mi Ar Be Me Co AA QQ hQ h hr hlk
  refine hs_lv (lv' := [(0, .ref (g 0))]) rfl ?_
  refine hv_aload_n h dX0_redo_0 0 rfl rfl ?_
  refine hv_get (C := RX0) (T := TX0) (N := 5) h 0 rfl rfl 1 (by decide) wu_X0 w_fieldLink_X0_19 (fun _ h9 => h9) rfl dX0_redo_1 ?_
  refine hv_aload_n h dX0_redo_4 0 rfl rfl ?_
  refine hv_get (C := RX0) (T := TX0) (N := 5) h 0 rfl rfl 0 (by decide) wu_X0 w_fieldLink_X0_11 (fun _ h9 => h9) rfl dX0_redo_5 ?_
  refine hv_callp (ws' := (hsW g cI cC cols sol oth out num (nI o) (nI d) (nI 0) lf tk en m0 m1 m2 m3 m4)) (v := (-2)) h (hr_Vi (n := 1) (rest := []) h 2 rfl rfl (k_X2_doAgain_0 l D cI cC g cols sol oth out num o d lf tk en m0 m1 m2 m3 m4) w_methodLink_X0_86 w_instanceMethod_X2_doAgain w_selects_X2_doAgain w_initialized_X2 w_code_X2_doAgain (by decide +kernel) rfl rfl rfl ⟨by decide, by decide⟩ rfl (Nat.le_of_ble_eq_true rfl) ⟨Nat.zero_le _, Nat.zero_le _⟩ dX0_redo_8) ?_
  exact hv_iret h hr hlk hQ dX0_redo_11 ⟨rfl, rfl⟩
set_option maxHeartbeats 1000000 in
set_option maxRecDepth 100000 in
theorem k_X0_redo_1 (l : Launch) (D : va_G) (cI cC : ClassId) (g : Nat → Nat) (cols : Nat → Nat → Int32) (sol oth : Nat → Nat) (out : Nat) (num : Nat → Int32) (o d t : Nat) (lf tk : Nat → Int32) (en : Int32) (m0 m1 m2 m3 m4 : Nat × va_E) (sg : Nat)  (ho : o < 12) (hd : d < 12) (ht : t < 12) (hn : num ((o + d) % 12) = nI sg) (hsg : sg < 6) (hsol : ∀ i, i < 6 → sol i < 20) (hoth : ∀ i, i < 12 → oth i < 20) : hsI l yX0_redo wsX0_redo rX0_redo D vwCl (hsT cI cC) [.ref (g 0)] (hsW g cI cC cols sol oth out num (nI o) (nI d) (nI (t + 1)) lf tk en m0 m1 m2 m3 m4) (fun r w => r = nI sg ∧ w = (hsW g cI cC cols (va_up sol sg (oth ((o + d) % 12))) (va_up oth ((o + d) % 12) (sol sg)) out num (nI o) (nI (d + 1)) (nI t) lf tk en m0 m1 m2 m3 m4)) := by
  refine hsI.enter (cc := cX0_redo) (maxL := 1) (ret := (some .int)) (by decide) rfl (Nat.le_of_ble_eq_true rfl) ?_
  intro Pg En Ss Mi Ar Be Me Co AA QQ hQ h hr hlk
  refine hs_lv (lv' := [(0, .ref (g 0))]) rfl ?_
  refine hv_aload_n h dX0_redo_0 0 rfl rfl ?_
  refine hv_get (C := RX0) (T := TX0) (N := 5) h 0 rfl rfl 1 (by decide) wu_X0 w_fieldLink_X0_19 (fun _ h9 => h9) rfl dX0_redo_1 ?_
  refine hv_aload_n h dX0_redo_4 0 rfl rfl ?_
  refine hv_get (C := RX0) (T := TX0) (N := 5) h 0 rfl rfl 0 (by decide) wu_X0 w_fieldLink_X0_11 (fun _ h9 => h9) rfl dX0_redo_5 ?_
  refine hv_callp (ws' := (hsW g cI cC cols (va_up sol sg (oth ((o + d) % 12))) (va_up oth ((o + d) % 12) (sol sg)) out num (nI o) (nI (d + 1)) (nI t) lf tk en m0 m1 m2 m3 m4)) (v := nI sg) h (hr_Vi (n := 1) (rest := []) h 2 rfl rfl (k_X2_doAgain_1 l D cI cC g cols sol oth out num o d t lf tk en m0 m1 m2 m3 m4 sg ho hd ht hn hsg hsol hoth) w_methodLink_X0_86 w_instanceMethod_X2_doAgain w_selects_X2_doAgain w_initialized_X2 w_code_X2_doAgain (by decide +kernel) rfl rfl rfl ⟨by decide, by decide⟩ rfl (Nat.le_of_ble_eq_true rfl) ⟨Nat.zero_le _, Nat.zero_le _⟩ dX0_redo_8) ?_
  exact hv_iret h hr hlk hQ dX0_redo_11 ⟨rfl, rfl⟩
