abbrev rX4_see : Room := { frames := 2, cells := 0, slots := 0, locals := 45 }
set_option maxHeartbeats 1000000 in
set_option maxRecDepth 100000 in
theorem k_X4_see (l : Launch) (D : va_G) (cI cC : ClassId) (xa xb xc xd xe xf xg xh : Nat × va_E) (tl : va_W) (g : Nat → Nat) (bi wh : Nat → Int32) (Y : HF) (dn al bd : Int32) (s0 : Nat) (w0 : Int32) (x0 : Int32) (y0 : Int32) (z0 : Int32) (hs : s0 < 6) (hroom : hm_new bi s0 w0 Y x0 y0 z0 = true → Y.2.2 < 1728) : hsN l yX4_see wsX4_see rX4_see D vwCl (hsT cI cC) [.ref (g 8), .int (nI s0), .int w0, .int x0, .int y0, .int z0] (hmW xa xb xc xd xe xf xg xh tl g cI bi wh Y.1 Y.2.1 dn al (nI Y.2.2) bd) (fun w => w = (hmW xa xb xc xd xe xf xg xh tl g cI bi wh ((hm_see bi s0 w0 x0 y0 z0 Y).1) ((hm_see bi s0 w0 x0 y0 z0 Y).2.1) dn al (nI (hm_see bi s0 w0 x0 y0 z0 Y).2.2) bd)) := by
  refine hsN.enter (cc := cX4_see) (maxL := 6) (ret := none) (by decide) rfl (Nat.le_of_ble_eq_true rfl) ?_
  intro Pg En Ss Mi Ar Be Me Co AA QQ hQ h hr hlk
  refine hs_lv (lv' := [(0, .ref (g 8)), (1, .int (nI s0)), (2, .int w0), (3, .int x0), (4, .int y0), (5, .int z0)]) rfl ?_
  refine hv_iload_n h dX4_see_0 3 rfl rfl ?_
  refine hv_bipush h (12) dX4_see_1 (by decide) ?_
  refine hv_callp (ws' := (hmW xa xb xc xd xe xf xg xh tl g cI bi wh Y.1 Y.2.1 dn al (nI Y.2.2) bd)) (v := hx_b (hx_in x0 12)) h (hr_Si (n := 2) (rest := []) h (k_X4_isIn l D cI cC (hmW xa xb xc xd xe xf xg xh tl g cI bi wh Y.1 Y.2.1 dn al (nI Y.2.2) bd) x0 12) w_methodLink_X4_22 w_static_X4_isIn w_initialized_X4 w_code_X4_isIn (by decide +kernel) rfl rfl rfl ⟨by decide, by decide⟩ rfl (Nat.le_of_ble_eq_true rfl) ⟨Nat.zero_le _, Nat.zero_le _⟩ dX4_see_3) ?_
  refine hv_bif_eq h 64 dX4_see_6 rfl (fun c6 => ?_) (fun c6 => ?_)
  · exact hv_vret h hr hlk hQ dX4_see_64 (by rw [hm_see_no (by simp [hm_new, c6])])
  · refine hv_iload h dX4_see_9 4 rfl ?_
    refine hv_bipush h (12) dX4_see_11 (by decide) ?_
    refine hv_callp (ws' := (hmW xa xb xc xd xe xf xg xh tl g cI bi wh Y.1 Y.2.1 dn al (nI Y.2.2) bd)) (v := hx_b (hx_in y0 12)) h (hr_Si (n := 2) (rest := []) h (k_X4_isIn l D cI cC (hmW xa xb xc xd xe xf xg xh tl g cI bi wh Y.1 Y.2.1 dn al (nI Y.2.2) bd) y0 12) w_methodLink_X4_22 w_static_X4_isIn w_initialized_X4 w_code_X4_isIn (by decide +kernel) rfl rfl rfl ⟨by decide, by decide⟩ rfl (Nat.le_of_ble_eq_true rfl) ⟨Nat.zero_le _, Nat.zero_le _⟩ dX4_see_13) ?_
    refine hv_bif_eq h 64 dX4_see_16 rfl (fun c16 => ?_) (fun c16 => ?_)
    · exact hv_vret h hr hlk hQ dX4_see_64 (by rw [hm_see_no (by simp [hm_new, c6, c16])])
    · refine hv_iload h dX4_see_19 5 rfl ?_
      refine hv_bipush h (12) dX4_see_21 (by decide) ?_
      refine hv_callp (ws' := (hmW xa xb xc xd xe xf xg xh tl g cI bi wh Y.1 Y.2.1 dn al (nI Y.2.2) bd)) (v := hx_b (hx_in z0 12)) h (hr_Si (n := 2) (rest := []) h (k_X4_isIn l D cI cC (hmW xa xb xc xd xe xf xg xh tl g cI bi wh Y.1 Y.2.1 dn al (nI Y.2.2) bd) z0 12) w_methodLink_X4_22 w_static_X4_isIn w_initialized_X4 w_code_X4_isIn (by decide +kernel) rfl rfl rfl ⟨by decide, by decide⟩ rfl (Nat.le_of_ble_eq_true rfl) ⟨Nat.zero_le _, Nat.zero_le _⟩ dX4_see_23) ?_
      refine hv_bif_eq h 64 dX4_see_26 rfl (fun c26 => ?_) (fun c26 => ?_)
      · exact hv_vret h hr hlk hQ dX4_see_64 (by rw [hm_see_no (by simp [hm_new, c6, c16, c26])])
      · refine hv_aload_n h dX4_see_29 0 rfl rfl ?_
        refine hv_iload_n h dX4_see_30 1 rfl rfl ?_
        refine hv_iload_n h dX4_see_31 3 rfl rfl ?_
        refine hv_iload h dX4_see_32 4 rfl ?_
        refine hv_iload h dX4_see_34 5 rfl ?_
        refine hv_callp (ws' := (hmW xa xb xc xd xe xf xg xh tl g cI bi wh Y.1 Y.2.1 dn al (nI Y.2.2) bd)) (v := hx_b (hy_has bi s0 x0 y0 z0)) h (hr_Vi (n := 4) (rest := []) h 8 rfl rfl (k_X4_has l D cI cC xa xb xc xd xe xf xg xh tl g bi wh Y.1 Y.2.1 dn al (nI Y.2.2) bd s0 x0 y0 z0 (by omega)) w_methodLink_X4_26 w_instanceMethod_X4_has w_selects_X4_has w_initialized_X4 w_code_X4_has (by decide +kernel) rfl rfl rfl ⟨by decide, by decide⟩ rfl (Nat.le_of_ble_eq_true rfl) ⟨Nat.zero_le _, Nat.zero_le _⟩ dX4_see_36) ?_
        refine hv_iload_n h dX4_see_39 2 rfl rfl ?_
        refine hv_icmp_ne h 64 dX4_see_40 rfl (fun c40 => ?_) (fun c40 => ?_)
        · exact hv_vret h hr hlk hQ dX4_see_64 (by rw [hm_see_no (by simp [hm_new, c6, c16, c26, c40])])
        · refine hv_aload_n h dX4_see_43 0 rfl rfl ?_
          refine hv_get (C := RX4) (T := TX4) (N := 8) h 8 rfl rfl 4 (by decide) wu_X4 w_fieldLink_X4_16 (fun _ h9 => h9) rfl dX4_see_44 ?_
          refine hv_bipush h (12) dX4_see_47 (by decide) ?_
          refine hv_iload_n h dX4_see_49 3 rfl rfl ?_
          refine hv_imul h dX4_see_50 ?_
          refine hv_iload h dX4_see_51 4 rfl ?_
          refine hv_iadd h dX4_see_53 ?_
          refine hv_iald (v := Y.1 ((12 * x0) + y0).toNatClampNeg) h 11 0 rfl rfl (hy_sev c6 c16) rfl dX4_see_54 ?_
          refine hv_iload h dX4_see_55 5 rfl ?_
          refine hv_ishr h dX4_see_57 ?_
          refine hv_iconst h (1) dX4_see_58 (by decide) ?_
          refine hv_iand h dX4_see_59 ?_
          refine hv_iconst h (1) dX4_see_60 (by decide) ?_
          refine hv_icmp_ne h 65 dX4_see_61 rfl (fun c61 => ?_) (fun c61 => ?_)
          · have hnew : hm_new bi s0 w0 Y x0 y0 z0 = true := by simp [hm_new, c6, c16, c26, c40, c61]
            have hlt := hroom hnew
            refine hv_aload_n h dX4_see_65 0 rfl rfl ?_
            refine hv_get (C := RX4) (T := TX4) (N := 8) h 8 rfl rfl 4 (by decide) wu_X4 w_fieldLink_X4_16 (fun _ h9 => h9) rfl dX4_see_66 ?_
            refine hv_bipush h (12) dX4_see_69 (by decide) ?_
            refine hv_iload_n h dX4_see_71 3 rfl rfl ?_
            refine hv_imul h dX4_see_72 ?_
            refine hv_iload h dX4_see_73 4 rfl ?_
            refine hv_iadd h dX4_see_75 ?_
            refine hv_dup2 h dX4_see_76 rfl rfl ?_
            refine hv_iald (v := Y.1 ((12 * x0) + y0).toNatClampNeg) h 11 0 rfl rfl (hy_sev c6 c16) rfl dX4_see_77 ?_
            refine hv_iconst h (1) dX4_see_78 (by decide) ?_
            refine hv_iload h dX4_see_79 5 rfl ?_
            refine hv_ishl h dX4_see_81 ?_
            refine hv_ior h dX4_see_82 ?_
            refine hv_iast (ws' := (hmW xa xb xc xd xe xf xg xh tl g cI bi wh (upd Y.1 ((12 * x0) + y0).toNatClampNeg ((Y.1 ((12 * x0) + y0).toNatClampNeg) ||| ((1 : Int32) <<< (z0 &&& 31)))) Y.2.1 dn al (nI Y.2.2) bd)) h 11 0 rfl rfl (hy_sev c6 c16) dX4_see_83 rfl ?_
            refine hv_aload_n h dX4_see_84 0 rfl rfl ?_
            refine hv_get (C := RX4) (T := TX4) (N := 8) h 8 rfl rfl 6 (by decide) wu_X4 w_fieldLink_X4_19 (fun _ h9 => h9) rfl dX4_see_85 ?_
            refine hv_aload_n h dX4_see_88 0 rfl rfl ?_
            refine hv_get (C := RX4) (T := TX4) (N := 8) h 8 rfl rfl 5 (by decide) wu_X4 w_fieldLink_X4_73 (fun _ h9 => h9) rfl dX4_see_89 ?_
            refine hv_sipush h (144) dX4_see_92 (by decide) ?_
            refine hv_iload_n h dX4_see_95 3 rfl rfl ?_
            refine hv_imul h dX4_see_96 ?_
            refine hv_bipush h (12) dX4_see_97 (by decide) ?_
            refine hv_iload h dX4_see_99 4 rfl ?_
            refine hv_imul h dX4_see_101 ?_
            refine hv_iadd h dX4_see_102 ?_
            refine hv_iload h dX4_see_103 5 rfl ?_
            refine hv_iadd h dX4_see_105 ?_
            refine hv_iast (ws' := (hmW xa xb xc xd xe xf xg xh tl g cI bi wh (upd Y.1 ((12 * x0) + y0).toNatClampNeg ((Y.1 ((12 * x0) + y0).toNatClampNeg) ||| ((1 : Int32) <<< (z0 &&& 31)))) (upd Y.2.1 Y.2.2 (((144 * x0) + (12 * y0)) + z0)) dn al (nI Y.2.2) bd)) h 12 0 rfl rfl (vp_in_nI hlt (by decide)) dX4_see_106 (by rw [nI_clamp (by omega)]; rfl) ?_
            refine hv_aload_n h dX4_see_107 0 rfl rfl ?_
            refine hv_dup h dX4_see_108 rfl ?_
            refine hv_get (C := RX4) (T := TX4) (N := 8) h 8 rfl rfl 5 (by decide) wu_X4 w_fieldLink_X4_73 (fun _ h9 => h9) rfl dX4_see_109 ?_
            refine hv_iconst h (1) dX4_see_112 (by decide) ?_
            refine hw_iadd h (nI (Y.2.2 + 1)) dX4_see_113 (nI_add Y.2.2 1) ?_
            refine hv_put (ws' := (hmW xa xb xc xd xe xf xg xh tl g cI bi wh (upd Y.1 ((12 * x0) + y0).toNatClampNeg ((Y.1 ((12 * x0) + y0).toNatClampNeg) ||| ((1 : Int32) <<< (z0 &&& 31)))) (upd Y.2.1 Y.2.2 (((144 * x0) + (12 * y0)) + z0)) dn al (nI (Y.2.2 + 1)) bd)) (ty := .int) (C := RX4) (T := TX4) (N := 8) h 8 rfl rfl 5 (by decide) wu_X4 tyX4 tyX4_ok nX4 w_fieldLink_X4_73 (fun _ h9 => h9) rfl (by decide +kernel) rfl rfl (Nat.le_of_ble_eq_true rfl) dX4_see_114 rfl ?_
            exact hv_vret h hr hlk hQ dX4_see_117 (by rw [hm_see_yes hnew])
          · exact hv_vret h hr hlk hQ dX4_see_64 (by rw [hm_see_no (by simp [hm_new, c6, c16, c26, c40, c61])])
abbrev rX4_spread : Room := { frames := 3, cells := 0, slots := 0, locals := 70 }
set_option maxHeartbeats 1000000 in
set_option maxRecDepth 100000 in
theorem k_X4_spread (l : Launch) (D : va_G) (cI cC : ClassId) (xa xb xc xd xe xf xg xh : Nat × va_E) (tl : va_W) (g : Nat → Nat) (bi wh : Nat → Int32) (Y : HF) (dn al bd : Int32) (s0 : Nat) (w0 : Int32) (hs : s0 < 6) (hok : hm_ok Y) : hsN l yX4_spread wsX4_spread rX4_spread D vwCl (hsT cI cC) [.ref (g 8), .int (nI s0), .int w0] (hmW xa xb xc xd xe xf xg xh tl g cI bi wh Y.1 Y.2.1 dn al (nI Y.2.2) bd) (fun w => w = (hmW xa xb xc xd xe xf xg xh tl g cI bi wh (((hm_spr bi s0 w0 5185 (Y, false)).1).1) (((hm_spr bi s0 w0 5185 (Y, false)).1).2.1) dn al (nI ((hm_spr bi s0 w0 5185 (Y, false)).1).2.2) (hx_b (hm_spr bi s0 w0 5185 (Y, false)).2))) := by
  refine hsN.enter (cc := cX4_spread) (maxL := 6) (ret := none) (by decide) rfl (Nat.le_of_ble_eq_true rfl) ?_
  intro Pg En Ss Mi Ar Be Me Co AA QQ hQ h hr hlk
  refine hs_lv (lv' := [(0, .ref (g 8)), (1, .int (nI s0)), (2, .int w0)]) rfl ?_
  refine hv_aload_n h dX4_spread_0 0 rfl rfl ?_
  refine hv_iconst h (0) dX4_spread_1 (by decide) ?_
  refine hv_put (ws' := (hmW xa xb xc xd xe xf xg xh tl g cI bi wh Y.1 Y.2.1 dn al (nI Y.2.2) 0)) (ty := .boolean) (C := RX4) (T := TX4) (N := 8) h 8 rfl rfl 7 (by decide) wu_X4 tyX4 tyX4_ok nX4 w_fieldLink_X4_76 (fun _ h9 => h9) rfl (by decide +kernel) rfl rfl (Nat.le_of_ble_eq_true rfl) dX4_spread_2 rfl ?_
  have L5 : ∀ (N : Nat) (Q : HF) (b : Bool), hm_ok Q → hm_mu Q < N → hm_spr bi s0 w0 N (Q, b) = hm_spr bi s0 w0 5185 (Y, false) → hsV Pg l En rX4_spread Ss Mi Ar Be Me Co QQ 6 D vwCl AA Ss.heap 0 0 5 [(0, .ref (g 8)), (1, .int (nI s0)), (2, .int w0)] (hmW xa xb xc xd xe xf xg xh tl g cI bi wh Q.1 Q.2.1 dn al (nI Q.2.2) (hx_b b)) [] := by
    intro N
    induction N with
    | zero =>
      intro Q b hok hmu gZ
      exact absurd hmu (Nat.not_lt_zero _)
    | succ N ih5 =>
      intro Q b hok hmu gZ
      obtain ⟨S, Pi, t⟩ := Q
      refine hs_ws (ws' := (hmW xa xb xc xd xe xf xg xh tl g cI bi wh S Pi dn al (nI t) (hx_b b))) rfl ?_
      rcases Nat.eq_zero_or_pos t with ht0 | ht0
      · subst ht0
        refine hv_aload_n h dX4_spread_5 0 rfl rfl ?_
        refine hv_get (C := RX4) (T := TX4) (N := 8) h 8 rfl rfl 5 (by decide) wu_X4 w_fieldLink_X4_73 (fun _ h9 => h9) rfl dX4_spread_6 ?_
        refine hv_if_le h 187 dX4_spread_9 rfl (fun c9 => ?_) (fun hc => absurd (Int32.le_refl _) hc)
        exact hv_vret h hr hlk hQ dX4_spread_187 (by rw [← gZ, hm_spr_0])
      · obtain ⟨n, rfl⟩ : ∃ n, t = n + 1 := ⟨t - 1, by omega⟩
        have hok' : hm_ok (S, Pi, n) := by have := hok; simp only [hm_ok] at this ⊢; omega
        have hn : n < 1728 := by have := hok; simp only [hm_ok] at this; omega
        refine hv_aload_n h dX4_spread_5 0 rfl rfl ?_
        refine hv_get (C := RX4) (T := TX4) (N := 8) h 8 rfl rfl 5 (by decide) wu_X4 w_fieldLink_X4_73 (fun _ h9 => h9) rfl dX4_spread_6 ?_
        refine hv_if_le h 187 dX4_spread_9 rfl (fun hc => absurd hc (nI_nle (by omega) (by omega))) (fun c9 => ?_)
        refine hv_aload_n h dX4_spread_12 0 rfl rfl ?_
        refine hv_dup h dX4_spread_13 rfl ?_
        refine hv_get (C := RX4) (T := TX4) (N := 8) h 8 rfl rfl 5 (by decide) wu_X4 w_fieldLink_X4_73 (fun _ h9 => h9) rfl dX4_spread_14 ?_
        refine hv_iconst h (1) dX4_spread_17 (by decide) ?_
        refine hw_isub h (nI n) dX4_spread_18 (nI_pred _) ?_
        refine hv_put (ws' := (hmW xa xb xc xd xe xf xg xh tl g cI bi wh S Pi dn al (nI n) (hx_b b))) (ty := .int) (C := RX4) (T := TX4) (N := 8) h 8 rfl rfl 5 (by decide) wu_X4 tyX4 tyX4_ok nX4 w_fieldLink_X4_73 (fun _ h9 => h9) rfl (by decide +kernel) rfl rfl (Nat.le_of_ble_eq_true rfl) dX4_spread_19 rfl ?_
        refine hv_aload_n h dX4_spread_22 0 rfl rfl ?_
        refine hv_get (C := RX4) (T := TX4) (N := 8) h 8 rfl rfl 6 (by decide) wu_X4 w_fieldLink_X4_19 (fun _ h9 => h9) rfl dX4_spread_23 ?_
        refine hv_aload_n h dX4_spread_26 0 rfl rfl ?_
        refine hv_get (C := RX4) (T := TX4) (N := 8) h 8 rfl rfl 5 (by decide) wu_X4 w_fieldLink_X4_73 (fun _ h9 => h9) rfl dX4_spread_27 ?_
        refine hv_iald (v := Pi n) h 12 0 rfl rfl (vp_in_nI (by omega) (by decide)) (by rw [nI_clamp (by omega)]) dX4_spread_30 ?_
        refine hv_sipush h (144) dX4_spread_31 (by decide) ?_
        refine hv_idiv h dX4_spread_34 (by decide) ?_
        refine hv_istore_n h [(3, .int ((Pi n) / 144)), (0, .ref (g 8)), (1, .int (nI s0)), (2, .int w0)] dX4_spread_35 rfl (by decide) rfl ?_
        refine hv_aload_n h dX4_spread_36 1 rfl rfl ?_
        refine hv_get (C := RX4) (T := TX4) (N := 8) h 8 rfl rfl 6 (by decide) wu_X4 w_fieldLink_X4_19 (fun _ h9 => h9) rfl dX4_spread_37 ?_
        refine hv_aload_n h dX4_spread_40 1 rfl rfl ?_
        refine hv_get (C := RX4) (T := TX4) (N := 8) h 8 rfl rfl 5 (by decide) wu_X4 w_fieldLink_X4_73 (fun _ h9 => h9) rfl dX4_spread_41 ?_
        refine hv_iald (v := Pi n) h 12 0 rfl rfl (vp_in_nI (by omega) (by decide)) (by rw [nI_clamp (by omega)]) dX4_spread_44 ?_
        refine hv_bipush h (12) dX4_spread_45 (by decide) ?_
        refine hv_idiv h dX4_spread_47 (by decide) ?_
        refine hv_bipush h (12) dX4_spread_48 (by decide) ?_
        refine hv_irem h dX4_spread_50 (by decide) ?_
        refine hv_istore h [(4, .int (((Pi n) / 12) - ((Pi n) / 12) / 12 * 12)), (3, .int ((Pi n) / 144)), (0, .ref (g 8)), (1, .int (nI s0)), (2, .int w0)] dX4_spread_51 (by decide) rfl ?_
        refine hv_aload_n h dX4_spread_53 2 rfl rfl ?_
        refine hv_get (C := RX4) (T := TX4) (N := 8) h 8 rfl rfl 6 (by decide) wu_X4 w_fieldLink_X4_19 (fun _ h9 => h9) rfl dX4_spread_54 ?_
        refine hv_aload_n h dX4_spread_57 2 rfl rfl ?_
        refine hv_get (C := RX4) (T := TX4) (N := 8) h 8 rfl rfl 5 (by decide) wu_X4 w_fieldLink_X4_73 (fun _ h9 => h9) rfl dX4_spread_58 ?_
        refine hv_iald (v := Pi n) h 12 0 rfl rfl (vp_in_nI (by omega) (by decide)) (by rw [nI_clamp (by omega)]) dX4_spread_61 ?_
        refine hv_bipush h (12) dX4_spread_62 (by decide) ?_
        refine hv_irem h dX4_spread_64 (by decide) ?_
        refine hv_istore h [(5, .int ((Pi n) - (Pi n) / 12 * 12)), (4, .int (((Pi n) / 12) - ((Pi n) / 12) / 12 * 12)), (3, .int ((Pi n) / 144)), (0, .ref (g 8)), (1, .int (nI s0)), (2, .int w0)] dX4_spread_65 (by decide) rfl ?_
        refine hv_aload_n h dX4_spread_67 3 rfl rfl ?_
        refine hv_aload_n h dX4_spread_68 3 rfl rfl ?_
        refine hv_get (C := RX4) (T := TX4) (N := 8) h 8 rfl rfl 7 (by decide) wu_X4 w_fieldLink_X4_76 (fun _ h9 => h9) rfl dX4_spread_69 ?_
        have J103 : ∀ bb : Bool, bb = hm_bd (Pi n) b → hsV Pg l En rX4_spread Ss Mi Ar Be Me Co QQ 6 D vwCl AA Ss.heap 0 0 103 [(5, .int ((Pi n) - (Pi n) / 12 * 12)), (4, .int (((Pi n) / 12) - ((Pi n) / 12) / 12 * 12)), (3, .int ((Pi n) / 144)), (0, .ref (g 8)), (1, .int (nI s0)), (2, .int w0)] (hmW xa xb xc xd xe xf xg xh tl g cI bi wh S Pi dn al (nI n) (hx_b b)) (.int (hx_b bb) :: .ref (g 8) :: []) := by
          intro bb ebb
          refine hv_put (ws' := (hmW xa xb xc xd xe xf xg xh tl g cI bi wh S Pi dn al (nI n) (hx_b bb))) (ty := .boolean) (C := RX4) (T := TX4) (N := 8) h 8 rfl rfl 7 (by decide) wu_X4 tyX4 tyX4_ok nX4 w_fieldLink_X4_76 (fun _ h9 => h9) rfl (by decide +kernel) (hx_bnar _) (hx_bfit _) (Nat.le_of_ble_eq_true rfl) dX4_spread_103 rfl ?_
          refine hv_aload_n h dX4_spread_106 3 rfl rfl ?_
          refine hv_iload_n h dX4_spread_107 4 rfl rfl ?_
          refine hv_iload_n h dX4_spread_108 5 rfl rfl ?_
          refine hv_iload_n h dX4_spread_109 2 rfl rfl ?_
          refine hv_iconst h (1) dX4_spread_110 (by decide) ?_
          refine hv_isub h dX4_spread_111 ?_
          refine hv_iload h dX4_spread_112 1 rfl ?_
          refine hv_iload h dX4_spread_114 0 rfl ?_
          refine hv_callw (ws' := (hmW xa xb xc xd xe xf xg xh tl g cI bi wh ((hm_see bi s0 w0 (((Pi n) / 144) - 1) (((Pi n) / 12) - ((Pi n) / 12) / 12 * 12) ((Pi n) - (Pi n) / 12 * 12) (S, Pi, n)).1) ((hm_see bi s0 w0 (((Pi n) / 144) - 1) (((Pi n) / 12) - ((Pi n) / 12) / 12 * 12) ((Pi n) - (Pi n) / 12 * 12) (S, Pi, n)).2.1) dn al (nI (hm_see bi s0 w0 (((Pi n) / 144) - 1) (((Pi n) / 12) - ((Pi n) / 12) / 12 * 12) ((Pi n) - (Pi n) / 12 * 12) (S, Pi, n)).2.2) (hx_b bb))) h (hr_Vv (n := 5) (rest := []) h 8 rfl rfl (k_X4_see l D cI cC xa xb xc xd xe xf xg xh tl g bi wh (S, Pi, n) dn al (hx_b bb) s0 w0 (((Pi n) / 144) - 1) (((Pi n) / 12) - ((Pi n) / 12) / 12 * 12) ((Pi n) - (Pi n) / 12 * 12) (by omega) (hm_room hok')) w_methodLink_X4_83 w_instanceMethod_X4_see w_selects_X4_see w_initialized_X4 w_code_X4_see (by decide +kernel) rfl rfl rfl ⟨by decide, by decide⟩ rfl (Nat.le_of_ble_eq_true rfl) ⟨Nat.zero_le _, Nat.zero_le _⟩ dX4_spread_116) ?_
          refine hv_aload_n h dX4_spread_119 3 rfl rfl ?_
          refine hv_iload_n h dX4_spread_120 4 rfl rfl ?_
          refine hv_iload_n h dX4_spread_121 5 rfl rfl ?_
          refine hv_iload_n h dX4_spread_122 2 rfl rfl ?_
          refine hv_iconst h (1) dX4_spread_123 (by decide) ?_
          refine hv_iadd h dX4_spread_124 ?_
          refine hv_iload h dX4_spread_125 1 rfl ?_
          refine hv_iload h dX4_spread_127 0 rfl ?_
          refine hv_callw (ws' := (hmW xa xb xc xd xe xf xg xh tl g cI bi wh ((hm_see bi s0 w0 (((Pi n) / 144) + 1) (((Pi n) / 12) - ((Pi n) / 12) / 12 * 12) ((Pi n) - (Pi n) / 12 * 12) (hm_see bi s0 w0 (((Pi n) / 144) - 1) (((Pi n) / 12) - ((Pi n) / 12) / 12 * 12) ((Pi n) - (Pi n) / 12 * 12) (S, Pi, n))).1) ((hm_see bi s0 w0 (((Pi n) / 144) + 1) (((Pi n) / 12) - ((Pi n) / 12) / 12 * 12) ((Pi n) - (Pi n) / 12 * 12) (hm_see bi s0 w0 (((Pi n) / 144) - 1) (((Pi n) / 12) - ((Pi n) / 12) / 12 * 12) ((Pi n) - (Pi n) / 12 * 12) (S, Pi, n))).2.1) dn al (nI (hm_see bi s0 w0 (((Pi n) / 144) + 1) (((Pi n) / 12) - ((Pi n) / 12) / 12 * 12) ((Pi n) - (Pi n) / 12 * 12) (hm_see bi s0 w0 (((Pi n) / 144) - 1) (((Pi n) / 12) - ((Pi n) / 12) / 12 * 12) ((Pi n) - (Pi n) / 12 * 12) (S, Pi, n))).2.2) (hx_b bb))) h (hr_Vv (n := 5) (rest := []) h 8 rfl rfl (k_X4_see l D cI cC xa xb xc xd xe xf xg xh tl g bi wh (hm_see bi s0 w0 (((Pi n) / 144) - 1) (((Pi n) / 12) - ((Pi n) / 12) / 12 * 12) ((Pi n) - (Pi n) / 12 * 12) (S, Pi, n)) dn al (hx_b bb) s0 w0 (((Pi n) / 144) + 1) (((Pi n) / 12) - ((Pi n) / 12) / 12 * 12) ((Pi n) - (Pi n) / 12 * 12) (by omega) (hm_room (hm_see_ok hok'))) w_methodLink_X4_83 w_instanceMethod_X4_see w_selects_X4_see w_initialized_X4 w_code_X4_see (by decide +kernel) rfl rfl rfl ⟨by decide, by decide⟩ rfl (Nat.le_of_ble_eq_true rfl) ⟨Nat.zero_le _, Nat.zero_le _⟩ dX4_spread_129) ?_
          refine hv_aload_n h dX4_spread_132 3 rfl rfl ?_
          refine hv_iload_n h dX4_spread_133 4 rfl rfl ?_
          refine hv_iload_n h dX4_spread_134 5 rfl rfl ?_
          refine hv_iload_n h dX4_spread_135 2 rfl rfl ?_
          refine hv_iload h dX4_spread_136 1 rfl ?_
          refine hv_iconst h (1) dX4_spread_138 (by decide) ?_
          refine hv_isub h dX4_spread_139 ?_
          refine hv_iload h dX4_spread_140 0 rfl ?_
          refine hv_callw (ws' := (hmW xa xb xc xd xe xf xg xh tl g cI bi wh ((hm_see bi s0 w0 ((Pi n) / 144) ((((Pi n) / 12) - ((Pi n) / 12) / 12 * 12) - 1) ((Pi n) - (Pi n) / 12 * 12) (hm_see bi s0 w0 (((Pi n) / 144) + 1) (((Pi n) / 12) - ((Pi n) / 12) / 12 * 12) ((Pi n) - (Pi n) / 12 * 12) (hm_see bi s0 w0 (((Pi n) / 144) - 1) (((Pi n) / 12) - ((Pi n) / 12) / 12 * 12) ((Pi n) - (Pi n) / 12 * 12) (S, Pi, n)))).1) ((hm_see bi s0 w0 ((Pi n) / 144) ((((Pi n) / 12) - ((Pi n) / 12) / 12 * 12) - 1) ((Pi n) - (Pi n) / 12 * 12) (hm_see bi s0 w0 (((Pi n) / 144) + 1) (((Pi n) / 12) - ((Pi n) / 12) / 12 * 12) ((Pi n) - (Pi n) / 12 * 12) (hm_see bi s0 w0 (((Pi n) / 144) - 1) (((Pi n) / 12) - ((Pi n) / 12) / 12 * 12) ((Pi n) - (Pi n) / 12 * 12) (S, Pi, n)))).2.1) dn al (nI (hm_see bi s0 w0 ((Pi n) / 144) ((((Pi n) / 12) - ((Pi n) / 12) / 12 * 12) - 1) ((Pi n) - (Pi n) / 12 * 12) (hm_see bi s0 w0 (((Pi n) / 144) + 1) (((Pi n) / 12) - ((Pi n) / 12) / 12 * 12) ((Pi n) - (Pi n) / 12 * 12) (hm_see bi s0 w0 (((Pi n) / 144) - 1) (((Pi n) / 12) - ((Pi n) / 12) / 12 * 12) ((Pi n) - (Pi n) / 12 * 12) (S, Pi, n)))).2.2) (hx_b bb))) h (hr_Vv (n := 5) (rest := []) h 8 rfl rfl (k_X4_see l D cI cC xa xb xc xd xe xf xg xh tl g bi wh (hm_see bi s0 w0 (((Pi n) / 144) + 1) (((Pi n) / 12) - ((Pi n) / 12) / 12 * 12) ((Pi n) - (Pi n) / 12 * 12) (hm_see bi s0 w0 (((Pi n) / 144) - 1) (((Pi n) / 12) - ((Pi n) / 12) / 12 * 12) ((Pi n) - (Pi n) / 12 * 12) (S, Pi, n))) dn al (hx_b bb) s0 w0 ((Pi n) / 144) ((((Pi n) / 12) - ((Pi n) / 12) / 12 * 12) - 1) ((Pi n) - (Pi n) / 12 * 12) (by omega) (hm_room (hm_see_ok (hm_see_ok hok')))) w_methodLink_X4_83 w_instanceMethod_X4_see w_selects_X4_see w_initialized_X4 w_code_X4_see (by decide +kernel) rfl rfl rfl ⟨by decide, by decide⟩ rfl (Nat.le_of_ble_eq_true rfl) ⟨Nat.zero_le _, Nat.zero_le _⟩ dX4_spread_142) ?_
          refine hv_aload_n h dX4_spread_145 3 rfl rfl ?_
          refine hv_iload_n h dX4_spread_146 4 rfl rfl ?_
          refine hv_iload_n h dX4_spread_147 5 rfl rfl ?_
          refine hv_iload_n h dX4_spread_148 2 rfl rfl ?_
          refine hv_iload h dX4_spread_149 1 rfl ?_
          refine hv_iconst h (1) dX4_spread_151 (by decide) ?_
          refine hv_iadd h dX4_spread_152 ?_
          refine hv_iload h dX4_spread_153 0 rfl ?_
          refine hv_callw (ws' := (hmW xa xb xc xd xe xf xg xh tl g cI bi wh ((hm_see bi s0 w0 ((Pi n) / 144) ((((Pi n) / 12) - ((Pi n) / 12) / 12 * 12) + 1) ((Pi n) - (Pi n) / 12 * 12) (hm_see bi s0 w0 ((Pi n) / 144) ((((Pi n) / 12) - ((Pi n) / 12) / 12 * 12) - 1) ((Pi n) - (Pi n) / 12 * 12) (hm_see bi s0 w0 (((Pi n) / 144) + 1) (((Pi n) / 12) - ((Pi n) / 12) / 12 * 12) ((Pi n) - (Pi n) / 12 * 12) (hm_see bi s0 w0 (((Pi n) / 144) - 1) (((Pi n) / 12) - ((Pi n) / 12) / 12 * 12) ((Pi n) - (Pi n) / 12 * 12) (S, Pi, n))))).1) ((hm_see bi s0 w0 ((Pi n) / 144) ((((Pi n) / 12) - ((Pi n) / 12) / 12 * 12) + 1) ((Pi n) - (Pi n) / 12 * 12) (hm_see bi s0 w0 ((Pi n) / 144) ((((Pi n) / 12) - ((Pi n) / 12) / 12 * 12) - 1) ((Pi n) - (Pi n) / 12 * 12) (hm_see bi s0 w0 (((Pi n) / 144) + 1) (((Pi n) / 12) - ((Pi n) / 12) / 12 * 12) ((Pi n) - (Pi n) / 12 * 12) (hm_see bi s0 w0 (((Pi n) / 144) - 1) (((Pi n) / 12) - ((Pi n) / 12) / 12 * 12) ((Pi n) - (Pi n) / 12 * 12) (S, Pi, n))))).2.1) dn al (nI (hm_see bi s0 w0 ((Pi n) / 144) ((((Pi n) / 12) - ((Pi n) / 12) / 12 * 12) + 1) ((Pi n) - (Pi n) / 12 * 12) (hm_see bi s0 w0 ((Pi n) / 144) ((((Pi n) / 12) - ((Pi n) / 12) / 12 * 12) - 1) ((Pi n) - (Pi n) / 12 * 12) (hm_see bi s0 w0 (((Pi n) / 144) + 1) (((Pi n) / 12) - ((Pi n) / 12) / 12 * 12) ((Pi n) - (Pi n) / 12 * 12) (hm_see bi s0 w0 (((Pi n) / 144) - 1) (((Pi n) / 12) - ((Pi n) / 12) / 12 * 12) ((Pi n) - (Pi n) / 12 * 12) (S, Pi, n))))).2.2) (hx_b bb))) h (hr_Vv (n := 5) (rest := []) h 8 rfl rfl (k_X4_see l D cI cC xa xb xc xd xe xf xg xh tl g bi wh (hm_see bi s0 w0 ((Pi n) / 144) ((((Pi n) / 12) - ((Pi n) / 12) / 12 * 12) - 1) ((Pi n) - (Pi n) / 12 * 12) (hm_see bi s0 w0 (((Pi n) / 144) + 1) (((Pi n) / 12) - ((Pi n) / 12) / 12 * 12) ((Pi n) - (Pi n) / 12 * 12) (hm_see bi s0 w0 (((Pi n) / 144) - 1) (((Pi n) / 12) - ((Pi n) / 12) / 12 * 12) ((Pi n) - (Pi n) / 12 * 12) (S, Pi, n)))) dn al (hx_b bb) s0 w0 ((Pi n) / 144) ((((Pi n) / 12) - ((Pi n) / 12) / 12 * 12) + 1) ((Pi n) - (Pi n) / 12 * 12) (by omega) (hm_room (hm_see_ok (hm_see_ok (hm_see_ok hok'))))) w_methodLink_X4_83 w_instanceMethod_X4_see w_selects_X4_see w_initialized_X4 w_code_X4_see (by decide +kernel) rfl rfl rfl ⟨by decide, by decide⟩ rfl (Nat.le_of_ble_eq_true rfl) ⟨Nat.zero_le _, Nat.zero_le _⟩ dX4_spread_155) ?_
          refine hv_aload_n h dX4_spread_158 3 rfl rfl ?_
          refine hv_iload_n h dX4_spread_159 4 rfl rfl ?_
          refine hv_iload_n h dX4_spread_160 5 rfl rfl ?_
          refine hv_iload_n h dX4_spread_161 2 rfl rfl ?_
          refine hv_iload h dX4_spread_162 1 rfl ?_
          refine hv_iload h dX4_spread_164 0 rfl ?_
          refine hv_iconst h (1) dX4_spread_166 (by decide) ?_
          refine hv_isub h dX4_spread_167 ?_
          refine hv_callw (ws' := (hmW xa xb xc xd xe xf xg xh tl g cI bi wh ((hm_see bi s0 w0 ((Pi n) / 144) (((Pi n) / 12) - ((Pi n) / 12) / 12 * 12) (((Pi n) - (Pi n) / 12 * 12) - 1) (hm_see bi s0 w0 ((Pi n) / 144) ((((Pi n) / 12) - ((Pi n) / 12) / 12 * 12) + 1) ((Pi n) - (Pi n) / 12 * 12) (hm_see bi s0 w0 ((Pi n) / 144) ((((Pi n) / 12) - ((Pi n) / 12) / 12 * 12) - 1) ((Pi n) - (Pi n) / 12 * 12) (hm_see bi s0 w0 (((Pi n) / 144) + 1) (((Pi n) / 12) - ((Pi n) / 12) / 12 * 12) ((Pi n) - (Pi n) / 12 * 12) (hm_see bi s0 w0 (((Pi n) / 144) - 1) (((Pi n) / 12) - ((Pi n) / 12) / 12 * 12) ((Pi n) - (Pi n) / 12 * 12) (S, Pi, n)))))).1) ((hm_see bi s0 w0 ((Pi n) / 144) (((Pi n) / 12) - ((Pi n) / 12) / 12 * 12) (((Pi n) - (Pi n) / 12 * 12) - 1) (hm_see bi s0 w0 ((Pi n) / 144) ((((Pi n) / 12) - ((Pi n) / 12) / 12 * 12) + 1) ((Pi n) - (Pi n) / 12 * 12) (hm_see bi s0 w0 ((Pi n) / 144) ((((Pi n) / 12) - ((Pi n) / 12) / 12 * 12) - 1) ((Pi n) - (Pi n) / 12 * 12) (hm_see bi s0 w0 (((Pi n) / 144) + 1) (((Pi n) / 12) - ((Pi n) / 12) / 12 * 12) ((Pi n) - (Pi n) / 12 * 12) (hm_see bi s0 w0 (((Pi n) / 144) - 1) (((Pi n) / 12) - ((Pi n) / 12) / 12 * 12) ((Pi n) - (Pi n) / 12 * 12) (S, Pi, n)))))).2.1) dn al (nI (hm_see bi s0 w0 ((Pi n) / 144) (((Pi n) / 12) - ((Pi n) / 12) / 12 * 12) (((Pi n) - (Pi n) / 12 * 12) - 1) (hm_see bi s0 w0 ((Pi n) / 144) ((((Pi n) / 12) - ((Pi n) / 12) / 12 * 12) + 1) ((Pi n) - (Pi n) / 12 * 12) (hm_see bi s0 w0 ((Pi n) / 144) ((((Pi n) / 12) - ((Pi n) / 12) / 12 * 12) - 1) ((Pi n) - (Pi n) / 12 * 12) (hm_see bi s0 w0 (((Pi n) / 144) + 1) (((Pi n) / 12) - ((Pi n) / 12) / 12 * 12) ((Pi n) - (Pi n) / 12 * 12) (hm_see bi s0 w0 (((Pi n) / 144) - 1) (((Pi n) / 12) - ((Pi n) / 12) / 12 * 12) ((Pi n) - (Pi n) / 12 * 12) (S, Pi, n)))))).2.2) (hx_b bb))) h (hr_Vv (n := 5) (rest := []) h 8 rfl rfl (k_X4_see l D cI cC xa xb xc xd xe xf xg xh tl g bi wh (hm_see bi s0 w0 ((Pi n) / 144) ((((Pi n) / 12) - ((Pi n) / 12) / 12 * 12) + 1) ((Pi n) - (Pi n) / 12 * 12) (hm_see bi s0 w0 ((Pi n) / 144) ((((Pi n) / 12) - ((Pi n) / 12) / 12 * 12) - 1) ((Pi n) - (Pi n) / 12 * 12) (hm_see bi s0 w0 (((Pi n) / 144) + 1) (((Pi n) / 12) - ((Pi n) / 12) / 12 * 12) ((Pi n) - (Pi n) / 12 * 12) (hm_see bi s0 w0 (((Pi n) / 144) - 1) (((Pi n) / 12) - ((Pi n) / 12) / 12 * 12) ((Pi n) - (Pi n) / 12 * 12) (S, Pi, n))))) dn al (hx_b bb) s0 w0 ((Pi n) / 144) (((Pi n) / 12) - ((Pi n) / 12) / 12 * 12) (((Pi n) - (Pi n) / 12 * 12) - 1) (by omega) (hm_room (hm_see_ok (hm_see_ok (hm_see_ok (hm_see_ok hok')))))) w_methodLink_X4_83 w_instanceMethod_X4_see w_selects_X4_see w_initialized_X4 w_code_X4_see (by decide +kernel) rfl rfl rfl ⟨by decide, by decide⟩ rfl (Nat.le_of_ble_eq_true rfl) ⟨Nat.zero_le _, Nat.zero_le _⟩ dX4_spread_168) ?_
          refine hv_aload_n h dX4_spread_171 3 rfl rfl ?_
          refine hv_iload_n h dX4_spread_172 4 rfl rfl ?_
          refine hv_iload_n h dX4_spread_173 5 rfl rfl ?_
          refine hv_iload_n h dX4_spread_174 2 rfl rfl ?_
          refine hv_iload h dX4_spread_175 1 rfl ?_
          refine hv_iload h dX4_spread_177 0 rfl ?_
          refine hv_iconst h (1) dX4_spread_179 (by decide) ?_
          refine hv_iadd h dX4_spread_180 ?_
          refine hv_callw (ws' := (hmW xa xb xc xd xe xf xg xh tl g cI bi wh ((hm_see bi s0 w0 ((Pi n) / 144) (((Pi n) / 12) - ((Pi n) / 12) / 12 * 12) (((Pi n) - (Pi n) / 12 * 12) + 1) (hm_see bi s0 w0 ((Pi n) / 144) (((Pi n) / 12) - ((Pi n) / 12) / 12 * 12) (((Pi n) - (Pi n) / 12 * 12) - 1) (hm_see bi s0 w0 ((Pi n) / 144) ((((Pi n) / 12) - ((Pi n) / 12) / 12 * 12) + 1) ((Pi n) - (Pi n) / 12 * 12) (hm_see bi s0 w0 ((Pi n) / 144) ((((Pi n) / 12) - ((Pi n) / 12) / 12 * 12) - 1) ((Pi n) - (Pi n) / 12 * 12) (hm_see bi s0 w0 (((Pi n) / 144) + 1) (((Pi n) / 12) - ((Pi n) / 12) / 12 * 12) ((Pi n) - (Pi n) / 12 * 12) (hm_see bi s0 w0 (((Pi n) / 144) - 1) (((Pi n) / 12) - ((Pi n) / 12) / 12 * 12) ((Pi n) - (Pi n) / 12 * 12) (S, Pi, n))))))).1) ((hm_see bi s0 w0 ((Pi n) / 144) (((Pi n) / 12) - ((Pi n) / 12) / 12 * 12) (((Pi n) - (Pi n) / 12 * 12) + 1) (hm_see bi s0 w0 ((Pi n) / 144) (((Pi n) / 12) - ((Pi n) / 12) / 12 * 12) (((Pi n) - (Pi n) / 12 * 12) - 1) (hm_see bi s0 w0 ((Pi n) / 144) ((((Pi n) / 12) - ((Pi n) / 12) / 12 * 12) + 1) ((Pi n) - (Pi n) / 12 * 12) (hm_see bi s0 w0 ((Pi n) / 144) ((((Pi n) / 12) - ((Pi n) / 12) / 12 * 12) - 1) ((Pi n) - (Pi n) / 12 * 12) (hm_see bi s0 w0 (((Pi n) / 144) + 1) (((Pi n) / 12) - ((Pi n) / 12) / 12 * 12) ((Pi n) - (Pi n) / 12 * 12) (hm_see bi s0 w0 (((Pi n) / 144) - 1) (((Pi n) / 12) - ((Pi n) / 12) / 12 * 12) ((Pi n) - (Pi n) / 12 * 12) (S, Pi, n))))))).2.1) dn al (nI (hm_see bi s0 w0 ((Pi n) / 144) (((Pi n) / 12) - ((Pi n) / 12) / 12 * 12) (((Pi n) - (Pi n) / 12 * 12) + 1) (hm_see bi s0 w0 ((Pi n) / 144) (((Pi n) / 12) - ((Pi n) / 12) / 12 * 12) (((Pi n) - (Pi n) / 12 * 12) - 1) (hm_see bi s0 w0 ((Pi n) / 144) ((((Pi n) / 12) - ((Pi n) / 12) / 12 * 12) + 1) ((Pi n) - (Pi n) / 12 * 12) (hm_see bi s0 w0 ((Pi n) / 144) ((((Pi n) / 12) - ((Pi n) / 12) / 12 * 12) - 1) ((Pi n) - (Pi n) / 12 * 12) (hm_see bi s0 w0 (((Pi n) / 144) + 1) (((Pi n) / 12) - ((Pi n) / 12) / 12 * 12) ((Pi n) - (Pi n) / 12 * 12) (hm_see bi s0 w0 (((Pi n) / 144) - 1) (((Pi n) / 12) - ((Pi n) / 12) / 12 * 12) ((Pi n) - (Pi n) / 12 * 12) (S, Pi, n))))))).2.2) (hx_b bb))) h (hr_Vv (n := 5) (rest := []) h 8 rfl rfl (k_X4_see l D cI cC xa xb xc xd xe xf xg xh tl g bi wh (hm_see bi s0 w0 ((Pi n) / 144) (((Pi n) / 12) - ((Pi n) / 12) / 12 * 12) (((Pi n) - (Pi n) / 12 * 12) - 1) (hm_see bi s0 w0 ((Pi n) / 144) ((((Pi n) / 12) - ((Pi n) / 12) / 12 * 12) + 1) ((Pi n) - (Pi n) / 12 * 12) (hm_see bi s0 w0 ((Pi n) / 144) ((((Pi n) / 12) - ((Pi n) / 12) / 12 * 12) - 1) ((Pi n) - (Pi n) / 12 * 12) (hm_see bi s0 w0 (((Pi n) / 144) + 1) (((Pi n) / 12) - ((Pi n) / 12) / 12 * 12) ((Pi n) - (Pi n) / 12 * 12) (hm_see bi s0 w0 (((Pi n) / 144) - 1) (((Pi n) / 12) - ((Pi n) / 12) / 12 * 12) ((Pi n) - (Pi n) / 12 * 12) (S, Pi, n)))))) dn al (hx_b bb) s0 w0 ((Pi n) / 144) (((Pi n) / 12) - ((Pi n) / 12) / 12 * 12) (((Pi n) - (Pi n) / 12 * 12) + 1) (by omega) (hm_room (hm_see_ok (hm_see_ok (hm_see_ok (hm_see_ok (hm_see_ok hok'))))))) w_methodLink_X4_83 w_instanceMethod_X4_see w_selects_X4_see w_initialized_X4 w_code_X4_see (by decide +kernel) rfl rfl rfl ⟨by decide, by decide⟩ rfl (Nat.le_of_ble_eq_true rfl) ⟨Nat.zero_le _, Nat.zero_le _⟩ dX4_spread_181) ?_
          refine hv_goto h 5 dX4_spread_184 rfl ?_
          refine hs_pick (lv' := [(0, .ref (g 8)), (1, .int (nI s0)), (2, .int w0)]) [3, 4, 5] rfl ?_
          exact ih5 (hm_one bi s0 w0 (S, Pi, n)) bb (hm_one_ok hok') (Nat.lt_of_le_of_lt hm_one_mu (by have := hmu; simp only [hm_mu] at this ⊢; omega)) (by rw [← gZ, hm_spr_s, ebb])
        refine hv_bif_ne h 98 dX4_spread_72 rfl (fun c72 => ?_) (fun c72 => ?_)
        · refine hv_iconst h (1) dX4_spread_98 (by decide) ?_
          refine hv_goto h 103 dX4_spread_99 rfl ?_
          exact J103 true (by simp [hm_bd, c72])
        · refine hv_iload_n h dX4_spread_75 2 rfl rfl ?_
          refine hv_callp (ws' := (hmW xa xb xc xd xe xf xg xh tl g cI bi wh S Pi dn al (nI n) (hx_b b))) (v := hx_b (decide (((Pi n) / 144) = 0) || decide (((Pi n) / 144) = 11))) h (hr_Si (n := 1) (rest := [.ref (g 8)]) h (k_X4_isBorder l D cI cC (hmW xa xb xc xd xe xf xg xh tl g cI bi wh S Pi dn al (nI n) (hx_b b)) ((Pi n) / 144)) w_methodLink_X4_80 w_static_X4_isBorder w_initialized_X4 w_code_X4_isBorder (by decide +kernel) rfl rfl rfl ⟨by decide, by decide⟩ rfl (Nat.le_of_ble_eq_true rfl) ⟨Nat.zero_le _, Nat.zero_le _⟩ dX4_spread_76) ?_
          refine hv_bif_ne h 98 dX4_spread_79 rfl (fun c79 => ?_) (fun c79 => ?_)
          · refine hv_iconst h (1) dX4_spread_98 (by decide) ?_
            refine hv_goto h 103 dX4_spread_99 rfl ?_
            exact J103 true (by simp [hm_bd, c72, c79])
          · refine hv_iload h dX4_spread_82 1 rfl ?_
            refine hv_callp (ws' := (hmW xa xb xc xd xe xf xg xh tl g cI bi wh S Pi dn al (nI n) (hx_b b))) (v := hx_b (decide ((((Pi n) / 12) - ((Pi n) / 12) / 12 * 12) = 0) || decide ((((Pi n) / 12) - ((Pi n) / 12) / 12 * 12) = 11))) h (hr_Si (n := 1) (rest := [.ref (g 8)]) h (k_X4_isBorder l D cI cC (hmW xa xb xc xd xe xf xg xh tl g cI bi wh S Pi dn al (nI n) (hx_b b)) (((Pi n) / 12) - ((Pi n) / 12) / 12 * 12)) w_methodLink_X4_80 w_static_X4_isBorder w_initialized_X4 w_code_X4_isBorder (by decide +kernel) rfl rfl rfl ⟨by decide, by decide⟩ rfl (Nat.le_of_ble_eq_true rfl) ⟨Nat.zero_le _, Nat.zero_le _⟩ dX4_spread_84) ?_
            refine hv_bif_ne h 98 dX4_spread_87 rfl (fun c87 => ?_) (fun c87 => ?_)
            · refine hv_iconst h (1) dX4_spread_98 (by decide) ?_
              refine hv_goto h 103 dX4_spread_99 rfl ?_
              exact J103 true (by simp [hm_bd, c72, c79, c87])
            · refine hv_iload h dX4_spread_90 0 rfl ?_
              refine hv_callp (ws' := (hmW xa xb xc xd xe xf xg xh tl g cI bi wh S Pi dn al (nI n) (hx_b b))) (v := hx_b (decide (((Pi n) - (Pi n) / 12 * 12) = 0) || decide (((Pi n) - (Pi n) / 12 * 12) = 11))) h (hr_Si (n := 1) (rest := [.ref (g 8)]) h (k_X4_isBorder l D cI cC (hmW xa xb xc xd xe xf xg xh tl g cI bi wh S Pi dn al (nI n) (hx_b b)) ((Pi n) - (Pi n) / 12 * 12)) w_methodLink_X4_80 w_static_X4_isBorder w_initialized_X4 w_code_X4_isBorder (by decide +kernel) rfl rfl rfl ⟨by decide, by decide⟩ rfl (Nat.le_of_ble_eq_true rfl) ⟨Nat.zero_le _, Nat.zero_le _⟩ dX4_spread_92) ?_
              refine hv_bif_eq h 102 dX4_spread_95 rfl (fun c95 => ?_) (fun c95 => ?_)
              · refine hv_iconst h (0) dX4_spread_102 (by decide) ?_
                exact J103 false (by simp [hm_bd, c72, c79, c87, c95])
              · refine hv_iconst h (1) dX4_spread_98 (by decide) ?_
                refine hv_goto h 103 dX4_spread_99 rfl ?_
                exact J103 true (by simp [hm_bd, c72, c79, c87, c95])
  exact L5 5185 Y false hok (hm_mu_lt hok) rfl
abbrev rX4_sets : Room := { frames := 4, cells := 0, slots := 0, locals := 95 }
set_option maxHeartbeats 1000000 in
set_option maxRecDepth 100000 in
theorem k_X4_sets (l : Launch) (D : va_G) (cI cC : ClassId) (xa xb xc xd xe xf xg xh : Nat × va_E) (tl : va_W) (g : Nat → Nat) (bi wh : Nat → Int32) (Y : HF) (dn al : Int32) (b0 : Bool) (s0 : Nat) (w0 : Int32) (hs : s0 < 6) : hsI l yX4_sets wsX4_sets rX4_sets D vwCl (hsT cI cC) [.ref (g 8), .int (nI s0), .int w0] (hmW xa xb xc xd xe xf xg xh tl g cI bi wh Y.1 Y.2.1 dn al (nI Y.2.2) (hx_b b0)) (fun r w => r = (hm_sets bi s0 w0 Y b0).2 ∧ w = (hmW xa xb xc xd xe xf xg xh tl g cI bi wh (((hm_sets bi s0 w0 Y b0).1.1).1) (((hm_sets bi s0 w0 Y b0).1.1).2.1) dn al (nI ((hm_sets bi s0 w0 Y b0).1.1).2.2) (hx_b (hm_sets bi s0 w0 Y b0).1.2))) := by
  refine hsI.enter (cc := cX4_sets) (maxL := 5) (ret := (some .int)) (by decide) rfl (Nat.le_of_ble_eq_true rfl) ?_
  intro Pg En Ss Mi Ar Be Me Co AA QQ hQ h hr hlk
  refine hs_lv (lv' := [(0, .ref (g 8)), (1, .int (nI s0)), (2, .int w0)]) rfl ?_
  refine hv_iconst h (nI 0) dX4_sets_0 (by decide) ?_
  refine hv_istore_n h [(3, .int (nI 0)), (0, .ref (g 8)), (1, .int (nI s0)), (2, .int w0)] dX4_sets_1 rfl (by decide) rfl ?_
  have L2 : ∀ d2 k : Nat, k + d2 = 144 → ∀ (Fse : Nat → Int32), Fse = hx_it (fun k F => upd F k 0) k Y.1 → hsV Pg l En rX4_sets Ss Mi Ar Be Me Co QQ 5 D vwCl AA Ss.heap 0 0 2 [(3, .int (nI k)), (0, .ref (g 8)), (1, .int (nI s0)), (2, .int w0)] (hmW xa xb xc xd xe xf xg xh tl g cI bi wh Fse Y.2.1 dn al (nI Y.2.2) (hx_b b0)) [] := by
    intro d2
    induction d2 with
    | zero =>
      intro k kq2 Fse e_Fse
      obtain rfl : k = 144 := by omega
      refine hv_iload_n h dX4_sets_2 0 rfl rfl ?_
      refine hv_sipush h (nI 144) dX4_sets_3 (by decide) ?_
      refine hv_icmp_ge h 22 dX4_sets_6 rfl (fun c6 => ?_) (fun hc => absurd (Int32.le_refl _) hc)
      refine hv_iconst h (0) dX4_sets_22 (by decide) ?_
      refine hv_istore_n h [(3, .int 0), (0, .ref (g 8)), (1, .int (nI s0)), (2, .int w0)] dX4_sets_23 rfl (by decide) rfl ?_
      refine hv_iconst h (nI 0) dX4_sets_24 (by decide) ?_
      refine hv_istore h [(4, .int (nI 0)), (3, .int 0), (0, .ref (g 8)), (1, .int (nI s0)), (2, .int w0)] dX4_sets_25 (by decide) rfl ?_
      have L27 : ∀ d27 k : Nat, k + d27 = 1728 → ∀ (Z : (HF × Bool) × Int32), Z = hx_it (hm_set1 bi s0 w0) k (((Fse, Y.2.1, Y.2.2), b0), 0) → hsV Pg l En rX4_sets Ss Mi Ar Be Me Co QQ 5 D vwCl AA Ss.heap 0 0 27 [(4, .int (nI k)), (3, .int Z.2), (0, .ref (g 8)), (1, .int (nI s0)), (2, .int w0)] (hmW xa xb xc xd xe xf xg xh tl g cI bi wh Z.1.1.1 Z.1.1.2.1 dn al (nI Z.1.1.2.2) (hx_b Z.1.2)) [] := by
        intro d27
        induction d27 with
        | zero =>
          intro k kq27 Z e_Z
          obtain rfl : k = 1728 := by omega
          refine hv_iload h dX4_sets_27 0 rfl ?_
          refine hv_sipush h (nI 1728) dX4_sets_29 (by decide) ?_
          refine hv_icmp_ge h 103 dX4_sets_32 rfl (fun c32 => ?_) (fun hc => absurd (Int32.le_refl _) hc)
          refine hv_iload_n h dX4_sets_103 1 rfl rfl ?_
          exact hv_iret h hr hlk hQ dX4_sets_104 ⟨(by rw [e_Z, e_Fse]; rfl), (by rw [e_Z, e_Fse]; rfl)⟩
        | succ d27 ih27 =>
          intro k kq27 Z e_Z
          have hlt27 : k < 1728 := by omega
          refine hv_iload h dX4_sets_27 0 rfl ?_
          refine hv_sipush h (nI 1728) dX4_sets_29 (by decide) ?_
          refine hv_icmp_ge h 103 dX4_sets_32 rfl (fun hc => absurd hc (nI_ge hlt27 (by decide))) (fun c32 => ?_)
          refine hv_aload_n h dX4_sets_35 2 rfl rfl ?_
          refine hv_iconst h (0) dX4_sets_36 (by decide) ?_
          refine hv_put (ws' := (hmW xa xb xc xd xe xf xg xh tl g cI bi wh Z.1.1.1 Z.1.1.2.1 dn al 0 (hx_b Z.1.2))) (ty := .int) (C := RX4) (T := TX4) (N := 8) h 8 rfl rfl 5 (by decide) wu_X4 tyX4 tyX4_ok nX4 w_fieldLink_X4_73 (fun _ h9 => h9) rfl (by decide +kernel) rfl rfl (Nat.le_of_ble_eq_true rfl) dX4_sets_37 rfl ?_
          refine hv_aload_n h dX4_sets_40 2 rfl rfl ?_
          refine hv_iload_n h dX4_sets_41 3 rfl rfl ?_
          refine hv_iload_n h dX4_sets_42 4 rfl rfl ?_
          refine hv_iload h dX4_sets_43 0 rfl ?_
          refine hv_sipush h (144) dX4_sets_45 (by decide) ?_
          refine hw_idiv h (nI (k / 144)) dX4_sets_48 (by decide) (pk_div (by omega) (by decide) (by decide)) ?_
          refine hv_iload h dX4_sets_49 0 rfl ?_
          refine hv_bipush h (12) dX4_sets_51 (by decide) ?_
          refine hw_idiv h (nI (k / 12)) dX4_sets_53 (by decide) (pk_div (by omega) (by decide) (by decide)) ?_
          refine hv_bipush h (12) dX4_sets_54 (by decide) ?_
          refine hw_irem h (nI ((k / 12) % 12)) dX4_sets_56 (by decide) (pk_rem (by omega) (by decide) (by decide)) ?_
          refine hv_iload h dX4_sets_57 0 rfl ?_
          refine hv_bipush h (12) dX4_sets_59 (by decide) ?_
          refine hw_irem h (nI (k % 12)) dX4_sets_61 (by decide) (pk_rem (by omega) (by decide) (by decide)) ?_
          refine hv_callw (ws' := (hmW xa xb xc xd xe xf xg xh tl g cI bi wh ((hm_see bi s0 w0 (nI (k / 144)) (nI ((k / 12) % 12)) (nI (k % 12)) (Z.1.1.1, Z.1.1.2.1, 0)).1) ((hm_see bi s0 w0 (nI (k / 144)) (nI ((k / 12) % 12)) (nI (k % 12)) (Z.1.1.1, Z.1.1.2.1, 0)).2.1) dn al (nI (hm_see bi s0 w0 (nI (k / 144)) (nI ((k / 12) % 12)) (nI (k % 12)) (Z.1.1.1, Z.1.1.2.1, 0)).2.2) (hx_b Z.1.2))) h (hr_Vv (n := 5) (rest := []) h 8 rfl rfl (k_X4_see l D cI cC xa xb xc xd xe xf xg xh tl g bi wh (Z.1.1.1, Z.1.1.2.1, 0) dn al (hx_b Z.1.2) s0 w0 (nI (k / 144)) (nI ((k / 12) % 12)) (nI (k % 12)) (by omega) (hm_room hm_ok0)) w_methodLink_X4_83 w_instanceMethod_X4_see w_selects_X4_see w_initialized_X4 w_code_X4_see (by decide +kernel) rfl rfl rfl ⟨by decide, by decide⟩ rfl (Nat.le_of_ble_eq_true rfl) ⟨Nat.zero_le _, Nat.zero_le _⟩ dX4_sets_62) ?_
          refine hv_aload_n h dX4_sets_65 2 rfl rfl ?_
          refine hv_get (C := RX4) (T := TX4) (N := 8) h 8 rfl rfl 5 (by decide) wu_X4 w_fieldLink_X4_73 (fun _ h9 => h9) rfl dX4_sets_66 ?_
          refine hv_if_le h 97 dX4_sets_69 rfl (fun c69 => ?_) (fun c69 => ?_)
          · have hp0n : ¬ 0 < (hm_see bi s0 w0 (nI (k / 144)) (nI ((k / 12) % 12)) (nI (k % 12)) (Z.1.1.1, Z.1.1.2.1, 0)).2.2 := fun q => (nI_nle q (hm_lt31 (hm_see_ok hm_ok0))) c69
            refine hv_iinc h (nI (k + 1)) [(4, .int (nI (k + 1))), (3, .int Z.2), (0, .ref (g 8)), (1, .int (nI s0)), (2, .int w0)] dX4_sets_97 0 rfl (hs_inc _) (by decide) rfl ?_
            refine hv_goto h 27 dX4_sets_100 rfl ?_
            exact ih27 (k + 1) (by omega) ((hm_see bi s0 w0 (nI (k / 144)) (nI ((k / 12) % 12)) (nI (k % 12)) (Z.1.1.1, Z.1.1.2.1, 0), Z.1.2), Z.2) (by rw [hx_it_s, ← e_Z]; simp only [hm_set1]; rw [if_neg hp0n])
          · have hp0 : 0 < (hm_see bi s0 w0 (nI (k / 144)) (nI ((k / 12) % 12)) (nI (k % 12)) (Z.1.1.1, Z.1.1.2.1, 0)).2.2 := Nat.pos_of_ne_zero (fun q => c69 (by rw [q]; decide))
            refine hv_aload_n h dX4_sets_72 2 rfl rfl ?_
            refine hv_iload_n h dX4_sets_73 3 rfl rfl ?_
            refine hv_iload_n h dX4_sets_74 4 rfl rfl ?_
            refine hv_callw (ws' := (hmW xa xb xc xd xe xf xg xh tl g cI bi wh (((hm_spr bi s0 w0 5185 ((hm_see bi s0 w0 (nI (k / 144)) (nI ((k / 12) % 12)) (nI (k % 12)) (Z.1.1.1, Z.1.1.2.1, 0)), false)).1).1) (((hm_spr bi s0 w0 5185 ((hm_see bi s0 w0 (nI (k / 144)) (nI ((k / 12) % 12)) (nI (k % 12)) (Z.1.1.1, Z.1.1.2.1, 0)), false)).1).2.1) dn al (nI ((hm_spr bi s0 w0 5185 ((hm_see bi s0 w0 (nI (k / 144)) (nI ((k / 12) % 12)) (nI (k % 12)) (Z.1.1.1, Z.1.1.2.1, 0)), false)).1).2.2) (hx_b (hm_spr bi s0 w0 5185 ((hm_see bi s0 w0 (nI (k / 144)) (nI ((k / 12) % 12)) (nI (k % 12)) (Z.1.1.1, Z.1.1.2.1, 0)), false)).2))) h (hr_Vv (n := 2) (rest := []) h 8 rfl rfl (k_X4_spread l D cI cC xa xb xc xd xe xf xg xh tl g bi wh (hm_see bi s0 w0 (nI (k / 144)) (nI ((k / 12) % 12)) (nI (k % 12)) (Z.1.1.1, Z.1.1.2.1, 0)) dn al (hx_b Z.1.2) s0 w0 (by omega) (hm_see_ok hm_ok0)) w_methodLink_X4_87 w_instanceMethod_X4_spread w_selects_X4_spread w_initialized_X4 w_code_X4_spread (by decide +kernel) rfl rfl rfl ⟨by decide, by decide⟩ rfl (Nat.le_of_ble_eq_true rfl) ⟨Nat.zero_le _, Nat.zero_le _⟩ dX4_sets_75) ?_
            refine hv_iload_n h dX4_sets_78 1 rfl rfl ?_
            refine hv_iload_n h dX4_sets_79 4 rfl rfl ?_
            refine hv_if_ne h 90 dX4_sets_80 rfl (fun c80 => ?_) (fun c80 => ?_)
            · refine hv_iconst h (1) dX4_sets_90 (by decide) ?_
              refine hv_goto h 95 dX4_sets_91 rfl ?_
              refine hv_iadd h dX4_sets_95 ?_
              refine hv_istore_n h [(3, .int (Z.2 + 1)), (4, .int (nI k)), (0, .ref (g 8)), (1, .int (nI s0)), (2, .int w0)] dX4_sets_96 rfl (by decide) rfl ?_
              refine hv_iinc h (nI (k + 1)) [(4, .int (nI (k + 1))), (3, .int (Z.2 + 1)), (0, .ref (g 8)), (1, .int (nI s0)), (2, .int w0)] dX4_sets_97 1 rfl (hs_inc _) (by decide) rfl ?_
              refine hv_goto h 27 dX4_sets_100 rfl ?_
              exact ih27 (k + 1) (by omega) (((hm_spr bi s0 w0 5185 ((hm_see bi s0 w0 (nI (k / 144)) (nI ((k / 12) % 12)) (nI (k % 12)) (Z.1.1.1, Z.1.1.2.1, 0)), false)).1, (hm_spr bi s0 w0 5185 ((hm_see bi s0 w0 (nI (k / 144)) (nI ((k / 12) % 12)) (nI (k % 12)) (Z.1.1.1, Z.1.1.2.1, 0)), false)).2), Z.2 + 1) (by rw [hx_it_s, ← e_Z]; simp only [hm_set1]; rw [if_pos hp0, if_neg (fun q => c80 q.1)])
            · refine hv_aload_n h dX4_sets_83 2 rfl rfl ?_
              refine hv_get (C := RX4) (T := TX4) (N := 8) h 8 rfl rfl 7 (by decide) wu_X4 w_fieldLink_X4_76 (fun _ h9 => h9) rfl dX4_sets_84 ?_
              refine hv_bif_ne h 94 dX4_sets_87 rfl (fun c87 => ?_) (fun c87 => ?_)
              · refine hv_iconst h (0) dX4_sets_94 (by decide) ?_
                refine hv_iadd h dX4_sets_95 ?_
                refine hv_istore_n h [(3, .int (Z.2 + 0)), (4, .int (nI k)), (0, .ref (g 8)), (1, .int (nI s0)), (2, .int w0)] dX4_sets_96 rfl (by decide) rfl ?_
                refine hv_iinc h (nI (k + 1)) [(4, .int (nI (k + 1))), (3, .int (Z.2 + 0)), (0, .ref (g 8)), (1, .int (nI s0)), (2, .int w0)] dX4_sets_97 1 rfl (hs_inc _) (by decide) rfl ?_
                refine hv_goto h 27 dX4_sets_100 rfl ?_
                exact ih27 (k + 1) (by omega) (((hm_spr bi s0 w0 5185 ((hm_see bi s0 w0 (nI (k / 144)) (nI ((k / 12) % 12)) (nI (k % 12)) (Z.1.1.1, Z.1.1.2.1, 0)), false)).1, (hm_spr bi s0 w0 5185 ((hm_see bi s0 w0 (nI (k / 144)) (nI ((k / 12) % 12)) (nI (k % 12)) (Z.1.1.1, Z.1.1.2.1, 0)), false)).2), Z.2 + 0) (by rw [hx_it_s, ← e_Z]; simp only [hm_set1]; rw [if_pos hp0, if_pos ⟨c80, c87⟩])
              · refine hv_iconst h (1) dX4_sets_90 (by decide) ?_
                refine hv_goto h 95 dX4_sets_91 rfl ?_
                refine hv_iadd h dX4_sets_95 ?_
                refine hv_istore_n h [(3, .int (Z.2 + 1)), (4, .int (nI k)), (0, .ref (g 8)), (1, .int (nI s0)), (2, .int w0)] dX4_sets_96 rfl (by decide) rfl ?_
                refine hv_iinc h (nI (k + 1)) [(4, .int (nI (k + 1))), (3, .int (Z.2 + 1)), (0, .ref (g 8)), (1, .int (nI s0)), (2, .int w0)] dX4_sets_97 1 rfl (hs_inc _) (by decide) rfl ?_
                refine hv_goto h 27 dX4_sets_100 rfl ?_
                exact ih27 (k + 1) (by omega) (((hm_spr bi s0 w0 5185 ((hm_see bi s0 w0 (nI (k / 144)) (nI ((k / 12) % 12)) (nI (k % 12)) (Z.1.1.1, Z.1.1.2.1, 0)), false)).1, (hm_spr bi s0 w0 5185 ((hm_see bi s0 w0 (nI (k / 144)) (nI ((k / 12) % 12)) (nI (k % 12)) (Z.1.1.1, Z.1.1.2.1, 0)), false)).2), Z.2 + 1) (by rw [hx_it_s, ← e_Z]; simp only [hm_set1]; rw [if_pos hp0, if_neg (fun q => absurd (c87.symm.trans q.2) (by decide))])
      exact L27 1728 0 (by omega) (((Fse, Y.2.1, Y.2.2), b0), 0) rfl
    | succ d2 ih2 =>
      intro k kq2 Fse e_Fse
      have hlt2 : k < 144 := by omega
      refine hv_iload_n h dX4_sets_2 0 rfl rfl ?_
      refine hv_sipush h (nI 144) dX4_sets_3 (by decide) ?_
      refine hv_icmp_ge h 22 dX4_sets_6 rfl (fun hc => absurd hc (nI_ge hlt2 (by decide))) (fun c6 => ?_)
      refine hv_aload_n h dX4_sets_9 1 rfl rfl ?_
      refine hv_get (C := RX4) (T := TX4) (N := 8) h 8 rfl rfl 4 (by decide) wu_X4 w_fieldLink_X4_16 (fun _ h9 => h9) rfl dX4_sets_10 ?_
      refine hv_iload_n h dX4_sets_13 0 rfl rfl ?_
      refine hv_iconst h (0) dX4_sets_14 (by decide) ?_
      refine hv_iast (ws' := (hmW xa xb xc xd xe xf xg xh tl g cI bi wh (upd Fse k 0) Y.2.1 dn al (nI Y.2.2) (hx_b b0))) h 11 0 rfl rfl (vp_in_nI (by omega) (by decide)) dX4_sets_15 (by rw [nI_clamp (by omega)]; rfl) ?_
      refine hv_iinc h (nI (k + 1)) [(3, .int (nI (k + 1))), (0, .ref (g 8)), (1, .int (nI s0)), (2, .int w0)] dX4_sets_16 0 rfl (hs_inc _) (by decide) rfl ?_
      refine hv_goto h 2 dX4_sets_19 rfl ?_
      exact ih2 (k + 1) (by omega) _ (by rw [hx_it_s, ← e_Fse]; try first | assumption | with_reducible rfl | (simp [c6]; done))
  exact L2 144 0 (by omega) _ rfl
abbrev rX4_pieces : Room := { frames := 5, cells := 0, slots := 0, locals := 119 }
set_option maxHeartbeats 1000000 in
set_option maxRecDepth 100000 in
theorem k_X4_pieces (l : Launch) (D : va_G) (cI cC : ClassId) (xa xb xc xd xe xf xg xh : Nat × va_E) (tl : va_W) (g : Nat → Nat) (bi wh : Nat → Int32) (Y : HF) (dn al : Int32) (b0 : Bool) (s0 : Int32) : hsI l yX4_pieces wsX4_pieces rX4_pieces D vwCl (hsT cI cC) [.ref (g 8), .int s0] (hmW xa xb xc xd xe xf xg xh tl g cI bi wh Y.1 Y.2.1 dn al (nI Y.2.2) (hx_b b0)) (fun r w => r = hc_if (hx_in s0 6) (-1) (hm_sets bi s0.toNatClampNeg 1 Y b0).2 ∧ ∃ (Y2 : HF) (b2 : Bool), w = (hmW xa xb xc xd xe xf xg xh tl g cI bi wh Y2.1 Y2.2.1 dn al (nI Y2.2.2) (hx_b b2))) := by
  refine hsI.enter (cc := cX4_pieces) (maxL := 2) (ret := (some .int)) (by decide) rfl (Nat.le_of_ble_eq_true rfl) ?_
  intro Pg En Ss Mi Ar Be Me Co AA QQ hQ h hr hlk
  refine hs_lv (lv' := [(0, .ref (g 8)), (1, .int s0)]) rfl ?_
  refine hv_iload_n h dX4_pieces_0 1 rfl rfl ?_
  refine hv_callp (ws' := (hmW xa xb xc xd xe xf xg xh tl g cI bi wh Y.1 Y.2.1 dn al (nI Y.2.2) (hx_b b0))) (v := hx_b (hx_in s0 6)) h (hr_Si (n := 1) (rest := []) h (k_X4_isSolid l D cI cC (hmW xa xb xc xd xe xf xg xh tl g cI bi wh Y.1 Y.2.1 dn al (nI Y.2.2) (hx_b b0)) s0) w_methodLink_X4_45 w_static_X4_isSolid w_initialized_X4 w_code_X4_isSolid (by decide +kernel) rfl rfl rfl ⟨by decide, by decide⟩ rfl (Nat.le_of_ble_eq_true rfl) ⟨Nat.zero_le _, Nat.zero_le _⟩ dX4_pieces_1) ?_
  refine hv_bif_eq h 16 dX4_pieces_4 rfl (fun c4 => ?_) (fun c4 => ?_)
  · refine hv_iconst h ((-1)) dX4_pieces_16 (by decide) ?_
    exact hv_iret h hr hlk hQ dX4_pieces_17 ⟨(by simp [hc_if, c4]), Y, b0, rfl⟩
  · obtain ⟨i0, hi0, rfl⟩ := hx_in_nat (n := 6) (by decide) c4
    have hcli0 : (nI i0).toNatClampNeg = i0 := nI_clamp (by omega)
    refine hv_aload_n h dX4_pieces_7 0 rfl rfl ?_
    refine hv_iload_n h dX4_pieces_8 1 rfl rfl ?_
    refine hv_iconst h (1) dX4_pieces_9 (by decide) ?_
    refine hv_callp (ws' := (hmW xa xb xc xd xe xf xg xh tl g cI bi wh (((hm_sets bi i0 1 Y b0).1.1).1) (((hm_sets bi i0 1 Y b0).1.1).2.1) dn al (nI ((hm_sets bi i0 1 Y b0).1.1).2.2) (hx_b (hm_sets bi i0 1 Y b0).1.2))) (v := (hm_sets bi i0 1 Y b0).2) h (hr_Vi (n := 2) (rest := []) h 8 rfl rfl (k_X4_sets l D cI cC xa xb xc xd xe xf xg xh tl g bi wh Y dn al b0 i0 1 (by omega)) w_methodLink_X4_91 w_instanceMethod_X4_sets w_selects_X4_sets w_initialized_X4 w_code_X4_sets (by decide +kernel) rfl rfl rfl ⟨by decide, by decide⟩ rfl (Nat.le_of_ble_eq_true rfl) ⟨Nat.zero_le _, Nat.zero_le _⟩ dX4_pieces_10) ?_
    refine hv_goto h 17 dX4_pieces_13 rfl ?_
    exact hv_iret h hr hlk hQ dX4_pieces_17 ⟨(by simp [hc_if, c4, hcli0]), (hm_sets bi i0 1 Y b0).1.1, (hm_sets bi i0 1 Y b0).1.2, rfl⟩
abbrev rX4_hollows : Room := { frames := 5, cells := 0, slots := 0, locals := 119 }
set_option maxHeartbeats 1000000 in
set_option maxRecDepth 100000 in
theorem k_X4_hollows (l : Launch) (D : va_G) (cI cC : ClassId) (xa xb xc xd xe xf xg xh : Nat × va_E) (tl : va_W) (g : Nat → Nat) (bi wh : Nat → Int32) (Y : HF) (dn al : Int32) (b0 : Bool) (s0 : Int32) : hsI l yX4_hollows wsX4_hollows rX4_hollows D vwCl (hsT cI cC) [.ref (g 8), .int s0] (hmW xa xb xc xd xe xf xg xh tl g cI bi wh Y.1 Y.2.1 dn al (nI Y.2.2) (hx_b b0)) (fun r w => r = hc_if (hx_in s0 6) (-1) (hm_sets bi s0.toNatClampNeg 0 Y b0).2 ∧ ∃ (Y2 : HF) (b2 : Bool), w = (hmW xa xb xc xd xe xf xg xh tl g cI bi wh Y2.1 Y2.2.1 dn al (nI Y2.2.2) (hx_b b2))) := by
  refine hsI.enter (cc := cX4_hollows) (maxL := 2) (ret := (some .int)) (by decide) rfl (Nat.le_of_ble_eq_true rfl) ?_
  intro Pg En Ss Mi Ar Be Me Co AA QQ hQ h hr hlk
  refine hs_lv (lv' := [(0, .ref (g 8)), (1, .int s0)]) rfl ?_
  refine hv_iload_n h dX4_hollows_0 1 rfl rfl ?_
  refine hv_callp (ws' := (hmW xa xb xc xd xe xf xg xh tl g cI bi wh Y.1 Y.2.1 dn al (nI Y.2.2) (hx_b b0))) (v := hx_b (hx_in s0 6)) h (hr_Si (n := 1) (rest := []) h (k_X4_isSolid l D cI cC (hmW xa xb xc xd xe xf xg xh tl g cI bi wh Y.1 Y.2.1 dn al (nI Y.2.2) (hx_b b0)) s0) w_methodLink_X4_45 w_static_X4_isSolid w_initialized_X4 w_code_X4_isSolid (by decide +kernel) rfl rfl rfl ⟨by decide, by decide⟩ rfl (Nat.le_of_ble_eq_true rfl) ⟨Nat.zero_le _, Nat.zero_le _⟩ dX4_hollows_1) ?_
  refine hv_bif_eq h 16 dX4_hollows_4 rfl (fun c4 => ?_) (fun c4 => ?_)
  · refine hv_iconst h ((-1)) dX4_hollows_16 (by decide) ?_
    exact hv_iret h hr hlk hQ dX4_hollows_17 ⟨(by simp [hc_if, c4]), Y, b0, rfl⟩
  · obtain ⟨i0, hi0, rfl⟩ := hx_in_nat (n := 6) (by decide) c4
    have hcli0 : (nI i0).toNatClampNeg = i0 := nI_clamp (by omega)
    refine hv_aload_n h dX4_hollows_7 0 rfl rfl ?_
    refine hv_iload_n h dX4_hollows_8 1 rfl rfl ?_
    refine hv_iconst h (0) dX4_hollows_9 (by decide) ?_
    refine hv_callp (ws' := (hmW xa xb xc xd xe xf xg xh tl g cI bi wh (((hm_sets bi i0 0 Y b0).1.1).1) (((hm_sets bi i0 0 Y b0).1.1).2.1) dn al (nI ((hm_sets bi i0 0 Y b0).1.1).2.2) (hx_b (hm_sets bi i0 0 Y b0).1.2))) (v := (hm_sets bi i0 0 Y b0).2) h (hr_Vi (n := 2) (rest := []) h 8 rfl rfl (k_X4_sets l D cI cC xa xb xc xd xe xf xg xh tl g bi wh Y dn al b0 i0 0 (by omega)) w_methodLink_X4_91 w_instanceMethod_X4_sets w_selects_X4_sets w_initialized_X4 w_code_X4_sets (by decide +kernel) rfl rfl rfl ⟨by decide, by decide⟩ rfl (Nat.le_of_ble_eq_true rfl) ⟨Nat.zero_le _, Nat.zero_le _⟩ dX4_hollows_10) ?_
    refine hv_goto h 17 dX4_hollows_13 rfl ?_
    exact hv_iret h hr hlk hQ dX4_hollows_17 ⟨(by simp [hc_if, c4, hcli0]), (hm_sets bi i0 0 Y b0).1.1, (hm_sets bi i0 0 Y b0).1.2, rfl⟩
