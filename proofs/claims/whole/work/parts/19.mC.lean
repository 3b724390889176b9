abbrev rX4_step : Room := { frames := 1, cells := 0, slots := 0, locals := 23 }
set_option maxHeartbeats 1000000 in
set_option maxRecDepth 100000 in
theorem k_X4_step (l : Launch) (D : va_G) (cI cC : ClassId) (xa xb xc xd xe xf xg xh : Nat × va_E) (tl : va_W) (g : Nat → Nat) (bi wh se pi : Nat → Int32) (d : Nat) (al tp bd : Int32) (s0 : Nat) (hs : s0 < 6) (hd : d ≤ 12) : hsI l yX4_step wsX4_step rX4_step D vwCl (hsT cI cC) [.ref (g 8), .int (nI s0)] (hmW xa xb xc xd xe xf xg xh tl g cI bi wh se pi (nI d) al tp bd) (fun r w => r = hy_cnt (hy_stp bi wh d s0).1 s0 ∧ w = (hmW xa xb xc xd xe xf xg xh tl g cI ((hy_stp bi wh d s0).1) ((hy_stp bi wh d s0).2) se pi (nI (hq_d d + 1)) (nI (hq_d d + 1)) tp bd)) := by
  refine hsI.enter (cc := cX4_step) (maxL := 3) (ret := (some .int)) (by decide) rfl (Nat.le_of_ble_eq_true rfl) ?_
  intro Pg En Ss Mi Ar Be Me Co AA QQ hQ h hr hlk
  refine hs_lv (lv' := [(0, .ref (g 8)), (1, .int (nI s0))]) rfl ?_
  refine hv_aload_n h dX4_step_0 0 rfl rfl ?_
  refine hv_get (C := RX4) (T := TX4) (N := 8) h 8 rfl rfl 1 (by decide) wu_X4 w_fieldLink_X4_30 (fun _ h9 => h9) rfl dX4_step_1 ?_
  refine hv_bipush h (12) dX4_step_4 (by decide) ?_
  refine hv_icmp_ne h 95 dX4_step_6 rfl (fun c6 => ?_) (fun c6 => ?_)
  · have hdn : ¬ d = 12 := fun q => c6 (by rw [q]; rfl)
    have hdl : d < 12 := by omega
    refine hv_aload_n h dX4_step_95 0 rfl rfl ?_
    refine hv_get (C := RX4) (T := TX4) (N := 8) h 8 rfl rfl 3 (by decide) wu_X4 w_fieldLink_X4_13 (fun _ h9 => h9) rfl dX4_step_96 ?_
    refine hv_aload_n h dX4_step_99 0 rfl rfl ?_
    refine hv_get (C := RX4) (T := TX4) (N := 8) h 8 rfl rfl 1 (by decide) wu_X4 w_fieldLink_X4_30 (fun _ h9 => h9) rfl dX4_step_100 ?_
    refine hv_iload_n h dX4_step_103 1 rfl rfl ?_
    refine hv_iast (ws' := (hmW xa xb xc xd xe xf xg xh tl g cI bi (upd wh d (nI s0)) se pi (nI d) al tp bd)) h 10 0 rfl rfl (vp_in_nI (by omega) (by decide)) dX4_step_104 (by rw [nI_clamp (by omega)]; rfl) ?_
    refine hv_aload_n h dX4_step_105 0 rfl rfl ?_
    refine hv_sipush h (144) dX4_step_106 (by decide) ?_
    refine hv_iload_n h dX4_step_109 1 rfl rfl ?_
    refine hw_imul h (nI (144 * s0)) dX4_step_110 (pk_mul 144 s0) ?_
    refine hv_sipush h (1008) dX4_step_111 (by decide) ?_
    refine hv_sipush h (144) dX4_step_114 (by decide) ?_
    refine hv_aload_n h dX4_step_117 0 rfl rfl ?_
    refine hv_get (C := RX4) (T := TX4) (N := 8) h 8 rfl rfl 1 (by decide) wu_X4 w_fieldLink_X4_30 (fun _ h9 => h9) rfl dX4_step_118 ?_
    refine hw_imul h (nI (144 * d)) dX4_step_121 (pk_mul 144 d) ?_
    refine hw_iadd h (nI (1008 + (144 * d))) dX4_step_122 (nI_add 1008 (144 * d)) ?_
    refine hv_callw (ws' := (hmW xa xb xc xd xe xf xg xh tl g cI (hy_cpy bi (144 * s0) (1008 + (144 * d))) (upd wh d (nI s0)) se pi (nI d) al tp bd)) h (hr_Vv (n := 2) (rest := []) h 8 rfl rfl (k_X4_copy l D cI cC xa xb xc xd xe xf xg xh tl g bi (upd wh d (nI s0)) se pi (nI d) al tp bd (144 * s0) (1008 + (144 * d)) (by omega) (by omega)) w_methodLink_X4_34 w_instanceMethod_X4_copy w_selects_X4_copy w_initialized_X4 w_code_X4_copy (by decide +kernel) rfl rfl rfl ⟨by decide, by decide⟩ rfl (Nat.le_of_ble_eq_true rfl) ⟨Nat.zero_le _, Nat.zero_le _⟩ dX4_step_123) ?_
    refine hv_aload_n h dX4_step_126 0 rfl rfl ?_
    refine hv_sipush h (864) dX4_step_127 (by decide) ?_
    refine hv_sipush h (2736) dX4_step_130 (by decide) ?_
    refine hv_sipush h (144) dX4_step_133 (by decide) ?_
    refine hv_aload_n h dX4_step_136 0 rfl rfl ?_
    refine hv_get (C := RX4) (T := TX4) (N := 8) h 8 rfl rfl 1 (by decide) wu_X4 w_fieldLink_X4_30 (fun _ h9 => h9) rfl dX4_step_137 ?_
    refine hw_imul h (nI (144 * d)) dX4_step_140 (pk_mul 144 d) ?_
    refine hw_iadd h (nI (2736 + (144 * d))) dX4_step_141 (nI_add 2736 (144 * d)) ?_
    refine hv_callw (ws' := (hmW xa xb xc xd xe xf xg xh tl g cI (hy_cpy (hy_cpy bi (144 * s0) (1008 + (144 * d))) 864 (2736 + (144 * d))) (upd wh d (nI s0)) se pi (nI d) al tp bd)) h (hr_Vv (n := 2) (rest := []) h 8 rfl rfl (k_X4_copy l D cI cC xa xb xc xd xe xf xg xh tl g (hy_cpy bi (144 * s0) (1008 + (144 * d))) (upd wh d (nI s0)) se pi (nI d) al tp bd 864 (2736 + (144 * d)) (by omega) (by omega)) w_methodLink_X4_34 w_instanceMethod_X4_copy w_selects_X4_copy w_initialized_X4 w_code_X4_copy (by decide +kernel) rfl rfl rfl ⟨by decide, by decide⟩ rfl (Nat.le_of_ble_eq_true rfl) ⟨Nat.zero_le _, Nat.zero_le _⟩ dX4_step_142) ?_
    refine hv_aload_n h dX4_step_145 0 rfl rfl ?_
    refine hv_sipush h (864) dX4_step_146 (by decide) ?_
    refine hv_sipush h (144) dX4_step_149 (by decide) ?_
    refine hv_iload_n h dX4_step_152 1 rfl rfl ?_
    refine hw_imul h (nI (144 * s0)) dX4_step_153 (pk_mul 144 s0) ?_
    refine hv_callw (ws' := (hmW xa xb xc xd xe xf xg xh tl g cI (hy_cpy (hy_cpy (hy_cpy bi (144 * s0) (1008 + (144 * d))) 864 (2736 + (144 * d))) 864 (144 * s0)) (upd wh d (nI s0)) se pi (nI d) al tp bd)) h (hr_Vv (n := 2) (rest := []) h 8 rfl rfl (k_X4_copy l D cI cC xa xb xc xd xe xf xg xh tl g (hy_cpy (hy_cpy bi (144 * s0) (1008 + (144 * d))) 864 (2736 + (144 * d))) (upd wh d (nI s0)) se pi (nI d) al tp bd 864 (144 * s0) (by omega) (by omega)) w_methodLink_X4_34 w_instanceMethod_X4_copy w_selects_X4_copy w_initialized_X4 w_code_X4_copy (by decide +kernel) rfl rfl rfl ⟨by decide, by decide⟩ rfl (Nat.le_of_ble_eq_true rfl) ⟨Nat.zero_le _, Nat.zero_le _⟩ dX4_step_154) ?_
    refine hv_aload_n h dX4_step_157 0 rfl rfl ?_
    refine hv_dup h dX4_step_158 rfl ?_
    refine hv_get (C := RX4) (T := TX4) (N := 8) h 8 rfl rfl 1 (by decide) wu_X4 w_fieldLink_X4_30 (fun _ h9 => h9) rfl dX4_step_159 ?_
    refine hv_iconst h (1) dX4_step_162 (by decide) ?_
    refine hw_iadd h (nI (d + 1)) dX4_step_163 (nI_add d 1) ?_
    refine hv_put (ws' := (hmW xa xb xc xd xe xf xg xh tl g cI (hy_cpy (hy_cpy (hy_cpy bi (144 * s0) (1008 + (144 * d))) 864 (2736 + (144 * d))) 864 (144 * s0)) (upd wh d (nI s0)) se pi (nI (d + 1)) al tp bd)) (ty := .int) (C := RX4) (T := TX4) (N := 8) h 8 rfl rfl 1 (by decide) wu_X4 tyX4 tyX4_ok nX4 w_fieldLink_X4_30 (fun _ h9 => h9) rfl (by decide +kernel) rfl rfl (Nat.le_of_ble_eq_true rfl) dX4_step_164 rfl ?_
    refine hv_aload_n h dX4_step_167 0 rfl rfl ?_
    refine hv_aload_n h dX4_step_168 0 rfl rfl ?_
    refine hv_get (C := RX4) (T := TX4) (N := 8) h 8 rfl rfl 1 (by decide) wu_X4 w_fieldLink_X4_30 (fun _ h9 => h9) rfl dX4_step_169 ?_
    refine hv_put (ws' := (hmW xa xb xc xd xe xf xg xh tl g cI (hy_cpy (hy_cpy (hy_cpy bi (144 * s0) (1008 + (144 * d))) 864 (2736 + (144 * d))) 864 (144 * s0)) (upd wh d (nI s0)) se pi (nI (d + 1)) (nI (d + 1)) tp bd)) (ty := .int) (C := RX4) (T := TX4) (N := 8) h 8 rfl rfl 2 (by decide) wu_X4 tyX4 tyX4_ok nX4 w_fieldLink_X4_38 (fun _ h9 => h9) rfl (by decide +kernel) rfl rfl (Nat.le_of_ble_eq_true rfl) dX4_step_172 rfl ?_
    refine hv_aload_n h dX4_step_175 0 rfl rfl ?_
    refine hv_iload_n h dX4_step_176 1 rfl rfl ?_
    refine hv_callp (ws' := (hmW xa xb xc xd xe xf xg xh tl g cI (hy_cpy (hy_cpy (hy_cpy bi (144 * s0) (1008 + (144 * d))) 864 (2736 + (144 * d))) 864 (144 * s0)) (upd wh d (nI s0)) se pi (nI (d + 1)) (nI (d + 1)) tp bd)) (v := hy_cnt (hy_cpy (hy_cpy (hy_cpy bi (144 * s0) (1008 + (144 * d))) 864 (2736 + (144 * d))) 864 (144 * s0)) s0) h (hr_Vi (n := 1) (rest := []) h 8 rfl rfl (k_X4_count l D cI cC xa xb xc xd xe xf xg xh tl g (hy_cpy (hy_cpy (hy_cpy bi (144 * s0) (1008 + (144 * d))) 864 (2736 + (144 * d))) 864 (144 * s0)) (upd wh d (nI s0)) se pi (nI (d + 1)) (nI (d + 1)) tp bd s0 (by omega)) w_methodLink_X4_41 w_instanceMethod_X4_count w_selects_X4_count w_initialized_X4 w_code_X4_count (by decide +kernel) rfl rfl rfl ⟨by decide, by decide⟩ rfl (Nat.le_of_ble_eq_true rfl) ⟨Nat.zero_le _, Nat.zero_le _⟩ dX4_step_177) ?_
    exact hv_iret h hr hlk hQ dX4_step_180 ⟨(by simp [hy_stp, hq_d, hdn]), (by simp [hy_stp, hq_d, hdn])⟩
  · obtain rfl : d = 12 := (nI_eq (a := d) (b := 12) (by omega) (by decide)).mp c6
    refine hv_iconst h (nI 1) dX4_step_9 (by decide) ?_
    refine hv_istore_n h [(2, .int (nI 1)), (0, .ref (g 8)), (1, .int (nI s0))] dX4_step_10 rfl (by decide) rfl ?_
    have L11 : ∀ d11 k : Nat, k + d11 = 11 → ∀ (Z : (Nat → Int32) × (Nat → Int32)), Z = hx_it (fun k (Z : (Nat → Int32) × (Nat → Int32)) => (hy_cpy (hy_cpy Z.1 (1008 + (144 * (k + 1))) (1008 + (144 * k))) (2736 + (144 * (k + 1))) (2736 + (144 * k)), upd Z.2 k (Z.2 (k + 1)))) k (bi, wh) → hsV Pg l En rX4_step Ss Mi Ar Be Me Co QQ 3 D vwCl AA Ss.heap 0 0 11 [(2, .int (nI (k + 1))), (0, .ref (g 8)), (1, .int (nI s0))] (hmW xa xb xc xd xe xf xg xh tl g cI Z.1 Z.2 se pi (nI (11 + 1)) al tp bd) [] := by
      intro d11
      induction d11 with
      | zero =>
        intro k kq11 Z e_Z
        obtain rfl : k = 11 := by omega
        refine hv_iload_n h dX4_step_11 0 rfl rfl ?_
        refine hv_bipush h (nI 12) dX4_step_12 (by decide) ?_
        refine hv_icmp_ge h 85 dX4_step_14 rfl (fun c14 => ?_) (fun hc => absurd (Int32.le_refl _) hc)
        refine hv_aload_n h dX4_step_85 1 rfl rfl ?_
        refine hv_dup h dX4_step_86 rfl ?_
        refine hv_get (C := RX4) (T := TX4) (N := 8) h 8 rfl rfl 1 (by decide) wu_X4 w_fieldLink_X4_30 (fun _ h9 => h9) rfl dX4_step_87 ?_
        refine hv_iconst h (1) dX4_step_90 (by decide) ?_
        refine hw_isub h (nI 11) dX4_step_91 (nI_pred _) ?_
        refine hv_put (ws' := (hmW xa xb xc xd xe xf xg xh tl g cI Z.1 Z.2 se pi (nI 11) al tp bd)) (ty := .int) (C := RX4) (T := TX4) (N := 8) h 8 rfl rfl 1 (by decide) wu_X4 tyX4 tyX4_ok nX4 w_fieldLink_X4_30 (fun _ h9 => h9) rfl (by decide +kernel) rfl rfl (Nat.le_of_ble_eq_true rfl) dX4_step_92 rfl ?_
        refine hv_aload_n h dX4_step_95 1 rfl rfl ?_
        refine hv_get (C := RX4) (T := TX4) (N := 8) h 8 rfl rfl 3 (by decide) wu_X4 w_fieldLink_X4_13 (fun _ h9 => h9) rfl dX4_step_96 ?_
        refine hv_aload_n h dX4_step_99 1 rfl rfl ?_
        refine hv_get (C := RX4) (T := TX4) (N := 8) h 8 rfl rfl 1 (by decide) wu_X4 w_fieldLink_X4_30 (fun _ h9 => h9) rfl dX4_step_100 ?_
        refine hv_iload_n h dX4_step_103 2 rfl rfl ?_
        refine hv_iast (ws' := (hmW xa xb xc xd xe xf xg xh tl g cI Z.1 (upd Z.2 11 (nI s0)) se pi (nI 11) al tp bd)) h 10 0 rfl rfl (vp_in_nI (by omega) (by decide)) dX4_step_104 (by rw [nI_clamp (by omega)]; rfl) ?_
        refine hv_aload_n h dX4_step_105 1 rfl rfl ?_
        refine hv_sipush h (144) dX4_step_106 (by decide) ?_
        refine hv_iload_n h dX4_step_109 2 rfl rfl ?_
        refine hw_imul h (nI (144 * s0)) dX4_step_110 (pk_mul 144 s0) ?_
        refine hv_sipush h (1008) dX4_step_111 (by decide) ?_
        refine hv_sipush h (144) dX4_step_114 (by decide) ?_
        refine hv_aload_n h dX4_step_117 1 rfl rfl ?_
        refine hv_get (C := RX4) (T := TX4) (N := 8) h 8 rfl rfl 1 (by decide) wu_X4 w_fieldLink_X4_30 (fun _ h9 => h9) rfl dX4_step_118 ?_
        refine hw_imul h (nI (144 * 11)) dX4_step_121 (pk_mul 144 11) ?_
        refine hw_iadd h (nI (1008 + (144 * 11))) dX4_step_122 (nI_add 1008 (144 * 11)) ?_
        refine hv_callw (ws' := (hmW xa xb xc xd xe xf xg xh tl g cI (hy_cpy Z.1 (144 * s0) (1008 + (144 * 11))) (upd Z.2 11 (nI s0)) se pi (nI 11) al tp bd)) h (hr_Vv (n := 2) (rest := []) h 8 rfl rfl (k_X4_copy l D cI cC xa xb xc xd xe xf xg xh tl g Z.1 (upd Z.2 11 (nI s0)) se pi (nI 11) al tp bd (144 * s0) (1008 + (144 * 11)) (by omega) (by omega)) w_methodLink_X4_34 w_instanceMethod_X4_copy w_selects_X4_copy w_initialized_X4 w_code_X4_copy (by decide +kernel) rfl rfl rfl ⟨by decide, by decide⟩ rfl (Nat.le_of_ble_eq_true rfl) ⟨Nat.zero_le _, Nat.zero_le _⟩ dX4_step_123) ?_
        refine hv_aload_n h dX4_step_126 1 rfl rfl ?_
        refine hv_sipush h (864) dX4_step_127 (by decide) ?_
        refine hv_sipush h (2736) dX4_step_130 (by decide) ?_
        refine hv_sipush h (144) dX4_step_133 (by decide) ?_
        refine hv_aload_n h dX4_step_136 1 rfl rfl ?_
        refine hv_get (C := RX4) (T := TX4) (N := 8) h 8 rfl rfl 1 (by decide) wu_X4 w_fieldLink_X4_30 (fun _ h9 => h9) rfl dX4_step_137 ?_
        refine hw_imul h (nI (144 * 11)) dX4_step_140 (pk_mul 144 11) ?_
        refine hw_iadd h (nI (2736 + (144 * 11))) dX4_step_141 (nI_add 2736 (144 * 11)) ?_
        refine hv_callw (ws' := (hmW xa xb xc xd xe xf xg xh tl g cI (hy_cpy (hy_cpy Z.1 (144 * s0) (1008 + (144 * 11))) 864 (2736 + (144 * 11))) (upd Z.2 11 (nI s0)) se pi (nI 11) al tp bd)) h (hr_Vv (n := 2) (rest := []) h 8 rfl rfl (k_X4_copy l D cI cC xa xb xc xd xe xf xg xh tl g (hy_cpy Z.1 (144 * s0) (1008 + (144 * 11))) (upd Z.2 11 (nI s0)) se pi (nI 11) al tp bd 864 (2736 + (144 * 11)) (by omega) (by omega)) w_methodLink_X4_34 w_instanceMethod_X4_copy w_selects_X4_copy w_initialized_X4 w_code_X4_copy (by decide +kernel) rfl rfl rfl ⟨by decide, by decide⟩ rfl (Nat.le_of_ble_eq_true rfl) ⟨Nat.zero_le _, Nat.zero_le _⟩ dX4_step_142) ?_
        refine hv_aload_n h dX4_step_145 1 rfl rfl ?_
        refine hv_sipush h (864) dX4_step_146 (by decide) ?_
        refine hv_sipush h (144) dX4_step_149 (by decide) ?_
        refine hv_iload_n h dX4_step_152 2 rfl rfl ?_
        refine hw_imul h (nI (144 * s0)) dX4_step_153 (pk_mul 144 s0) ?_
        refine hv_callw (ws' := (hmW xa xb xc xd xe xf xg xh tl g cI (hy_cpy (hy_cpy (hy_cpy Z.1 (144 * s0) (1008 + (144 * 11))) 864 (2736 + (144 * 11))) 864 (144 * s0)) (upd Z.2 11 (nI s0)) se pi (nI 11) al tp bd)) h (hr_Vv (n := 2) (rest := []) h 8 rfl rfl (k_X4_copy l D cI cC xa xb xc xd xe xf xg xh tl g (hy_cpy (hy_cpy Z.1 (144 * s0) (1008 + (144 * 11))) 864 (2736 + (144 * 11))) (upd Z.2 11 (nI s0)) se pi (nI 11) al tp bd 864 (144 * s0) (by omega) (by omega)) w_methodLink_X4_34 w_instanceMethod_X4_copy w_selects_X4_copy w_initialized_X4 w_code_X4_copy (by decide +kernel) rfl rfl rfl ⟨by decide, by decide⟩ rfl (Nat.le_of_ble_eq_true rfl) ⟨Nat.zero_le _, Nat.zero_le _⟩ dX4_step_154) ?_
        refine hv_aload_n h dX4_step_157 1 rfl rfl ?_
        refine hv_dup h dX4_step_158 rfl ?_
        refine hv_get (C := RX4) (T := TX4) (N := 8) h 8 rfl rfl 1 (by decide) wu_X4 w_fieldLink_X4_30 (fun _ h9 => h9) rfl dX4_step_159 ?_
        refine hv_iconst h (1) dX4_step_162 (by decide) ?_
        refine hw_iadd h (nI (11 + 1)) dX4_step_163 (nI_add 11 1) ?_
        refine hv_put (ws' := (hmW xa xb xc xd xe xf xg xh tl g cI (hy_cpy (hy_cpy (hy_cpy Z.1 (144 * s0) (1008 + (144 * 11))) 864 (2736 + (144 * 11))) 864 (144 * s0)) (upd Z.2 11 (nI s0)) se pi (nI (11 + 1)) al tp bd)) (ty := .int) (C := RX4) (T := TX4) (N := 8) h 8 rfl rfl 1 (by decide) wu_X4 tyX4 tyX4_ok nX4 w_fieldLink_X4_30 (fun _ h9 => h9) rfl (by decide +kernel) rfl rfl (Nat.le_of_ble_eq_true rfl) dX4_step_164 rfl ?_
        refine hv_aload_n h dX4_step_167 1 rfl rfl ?_
        refine hv_aload_n h dX4_step_168 1 rfl rfl ?_
        refine hv_get (C := RX4) (T := TX4) (N := 8) h 8 rfl rfl 1 (by decide) wu_X4 w_fieldLink_X4_30 (fun _ h9 => h9) rfl dX4_step_169 ?_
        refine hv_put (ws' := (hmW xa xb xc xd xe xf xg xh tl g cI (hy_cpy (hy_cpy (hy_cpy Z.1 (144 * s0) (1008 + (144 * 11))) 864 (2736 + (144 * 11))) 864 (144 * s0)) (upd Z.2 11 (nI s0)) se pi (nI (11 + 1)) (nI (11 + 1)) tp bd)) (ty := .int) (C := RX4) (T := TX4) (N := 8) h 8 rfl rfl 2 (by decide) wu_X4 tyX4 tyX4_ok nX4 w_fieldLink_X4_38 (fun _ h9 => h9) rfl (by decide +kernel) rfl rfl (Nat.le_of_ble_eq_true rfl) dX4_step_172 rfl ?_
        refine hv_aload_n h dX4_step_175 1 rfl rfl ?_
        refine hv_iload_n h dX4_step_176 2 rfl rfl ?_
        refine hv_callp (ws' := (hmW xa xb xc xd xe xf xg xh tl g cI (hy_cpy (hy_cpy (hy_cpy Z.1 (144 * s0) (1008 + (144 * 11))) 864 (2736 + (144 * 11))) 864 (144 * s0)) (upd Z.2 11 (nI s0)) se pi (nI (11 + 1)) (nI (11 + 1)) tp bd)) (v := hy_cnt (hy_cpy (hy_cpy (hy_cpy Z.1 (144 * s0) (1008 + (144 * 11))) 864 (2736 + (144 * 11))) 864 (144 * s0)) s0) h (hr_Vi (n := 1) (rest := []) h 8 rfl rfl (k_X4_count l D cI cC xa xb xc xd xe xf xg xh tl g (hy_cpy (hy_cpy (hy_cpy Z.1 (144 * s0) (1008 + (144 * 11))) 864 (2736 + (144 * 11))) 864 (144 * s0)) (upd Z.2 11 (nI s0)) se pi (nI (11 + 1)) (nI (11 + 1)) tp bd s0 (by omega)) w_methodLink_X4_41 w_instanceMethod_X4_count w_selects_X4_count w_initialized_X4 w_code_X4_count (by decide +kernel) rfl rfl rfl ⟨by decide, by decide⟩ rfl (Nat.le_of_ble_eq_true rfl) ⟨Nat.zero_le _, Nat.zero_le _⟩ dX4_step_177) ?_
        exact hv_iret h hr hlk hQ dX4_step_180 ⟨(by rw [e_Z]; rfl), (by rw [e_Z]; rfl)⟩
      | succ d11 ih11 =>
        intro k kq11 Z e_Z
        have hlt11 : k < 11 := by omega
        refine hv_iload_n h dX4_step_11 0 rfl rfl ?_
        refine hv_bipush h (nI 12) dX4_step_12 (by decide) ?_
        refine hv_icmp_ge h 85 dX4_step_14 rfl (fun hc => absurd hc (nI_ge (a := k + 1) (b := 12) (by omega) (by decide))) (fun c14 => ?_)
        refine hv_aload_n h dX4_step_17 1 rfl rfl ?_
        refine hv_get (C := RX4) (T := TX4) (N := 8) h 8 rfl rfl 3 (by decide) wu_X4 w_fieldLink_X4_13 (fun _ h9 => h9) rfl dX4_step_18 ?_
        refine hv_iload_n h dX4_step_21 0 rfl rfl ?_
        refine hv_iconst h (1) dX4_step_22 (by decide) ?_
        refine hw_isub h (nI k) dX4_step_23 (nI_pred _) ?_
        refine hv_aload_n h dX4_step_24 1 rfl rfl ?_
        refine hv_get (C := RX4) (T := TX4) (N := 8) h 8 rfl rfl 3 (by decide) wu_X4 w_fieldLink_X4_13 (fun _ h9 => h9) rfl dX4_step_25 ?_
        refine hv_iload_n h dX4_step_28 0 rfl rfl ?_
        refine hv_iald (v := Z.2 (k + 1)) h 10 0 rfl rfl (vp_in_nI (by omega) (by decide)) (by rw [nI_clamp (by omega)]) dX4_step_29 ?_
        refine hv_iast (ws' := (hmW xa xb xc xd xe xf xg xh tl g cI Z.1 (upd Z.2 k (Z.2 (k + 1))) se pi (nI (11 + 1)) al tp bd)) h 10 0 rfl rfl (vp_in_nI (by omega) (by decide)) dX4_step_30 (by rw [nI_clamp (by omega)]; rfl) ?_
        refine hv_aload_n h dX4_step_31 1 rfl rfl ?_
        refine hv_sipush h (1008) dX4_step_32 (by decide) ?_
        refine hv_sipush h (144) dX4_step_35 (by decide) ?_
        refine hv_iload_n h dX4_step_38 0 rfl rfl ?_
        refine hw_imul h (nI (144 * (k + 1))) dX4_step_39 (pk_mul 144 (k + 1)) ?_
        refine hw_iadd h (nI (1008 + (144 * (k + 1)))) dX4_step_40 (nI_add 1008 (144 * (k + 1))) ?_
        refine hv_sipush h (1008) dX4_step_41 (by decide) ?_
        refine hv_sipush h (144) dX4_step_44 (by decide) ?_
        refine hv_iload_n h dX4_step_47 0 rfl rfl ?_
        refine hv_iconst h (1) dX4_step_48 (by decide) ?_
        refine hw_isub h (nI k) dX4_step_49 (nI_pred _) ?_
        refine hw_imul h (nI (144 * k)) dX4_step_50 (pk_mul 144 k) ?_
        refine hw_iadd h (nI (1008 + (144 * k))) dX4_step_51 (nI_add 1008 (144 * k)) ?_
        refine hv_callw (ws' := (hmW xa xb xc xd xe xf xg xh tl g cI (hy_cpy Z.1 (1008 + (144 * (k + 1))) (1008 + (144 * k))) (upd Z.2 k (Z.2 (k + 1))) se pi (nI (11 + 1)) al tp bd)) h (hr_Vv (n := 2) (rest := []) h 8 rfl rfl (k_X4_copy l D cI cC xa xb xc xd xe xf xg xh tl g Z.1 (upd Z.2 k (Z.2 (k + 1))) se pi (nI (11 + 1)) al tp bd (1008 + (144 * (k + 1))) (1008 + (144 * k)) (by omega) (by omega)) w_methodLink_X4_34 w_instanceMethod_X4_copy w_selects_X4_copy w_initialized_X4 w_code_X4_copy (by decide +kernel) rfl rfl rfl ⟨by decide, by decide⟩ rfl (Nat.le_of_ble_eq_true rfl) ⟨Nat.zero_le _, Nat.zero_le _⟩ dX4_step_52) ?_
        refine hv_aload_n h dX4_step_55 1 rfl rfl ?_
        refine hv_sipush h (2736) dX4_step_56 (by decide) ?_
        refine hv_sipush h (144) dX4_step_59 (by decide) ?_
        refine hv_iload_n h dX4_step_62 0 rfl rfl ?_
        refine hw_imul h (nI (144 * (k + 1))) dX4_step_63 (pk_mul 144 (k + 1)) ?_
        refine hw_iadd h (nI (2736 + (144 * (k + 1)))) dX4_step_64 (nI_add 2736 (144 * (k + 1))) ?_
        refine hv_sipush h (2736) dX4_step_65 (by decide) ?_
        refine hv_sipush h (144) dX4_step_68 (by decide) ?_
        refine hv_iload_n h dX4_step_71 0 rfl rfl ?_
        refine hv_iconst h (1) dX4_step_72 (by decide) ?_
        refine hw_isub h (nI k) dX4_step_73 (nI_pred _) ?_
        refine hw_imul h (nI (144 * k)) dX4_step_74 (pk_mul 144 k) ?_
        refine hw_iadd h (nI (2736 + (144 * k))) dX4_step_75 (nI_add 2736 (144 * k)) ?_
        refine hv_callw (ws' := (hmW xa xb xc xd xe xf xg xh tl g cI (hy_cpy (hy_cpy Z.1 (1008 + (144 * (k + 1))) (1008 + (144 * k))) (2736 + (144 * (k + 1))) (2736 + (144 * k))) (upd Z.2 k (Z.2 (k + 1))) se pi (nI (11 + 1)) al tp bd)) h (hr_Vv (n := 2) (rest := []) h 8 rfl rfl (k_X4_copy l D cI cC xa xb xc xd xe xf xg xh tl g (hy_cpy Z.1 (1008 + (144 * (k + 1))) (1008 + (144 * k))) (upd Z.2 k (Z.2 (k + 1))) se pi (nI (11 + 1)) al tp bd (2736 + (144 * (k + 1))) (2736 + (144 * k)) (by omega) (by omega)) w_methodLink_X4_34 w_instanceMethod_X4_copy w_selects_X4_copy w_initialized_X4 w_code_X4_copy (by decide +kernel) rfl rfl rfl ⟨by decide, by decide⟩ rfl (Nat.le_of_ble_eq_true rfl) ⟨Nat.zero_le _, Nat.zero_le _⟩ dX4_step_76) ?_
        refine hv_iinc h (nI (k + 1 + 1)) [(2, .int (nI (k + 1 + 1))), (0, .ref (g 8)), (1, .int (nI s0))] dX4_step_79 0 rfl (hs_inc _) (by decide) rfl ?_
        refine hv_goto h 11 dX4_step_82 rfl ?_
        exact ih11 (k + 1) (by omega) (hy_cpy (hy_cpy Z.1 (1008 + (144 * (k + 1))) (1008 + (144 * k))) (2736 + (144 * (k + 1))) (2736 + (144 * k)), upd Z.2 k (Z.2 (k + 1))) (by rw [hx_it_s, ← e_Z]; try first | assumption | with_reducible rfl | (simp [c6, c14]; done))
    exact L11 11 0 (by omega) (bi, wh) rfl
abbrev rX4_undo : Room := { frames := 1, cells := 0, slots := 0, locals := 23 }
set_option maxHeartbeats 1000000 in
set_option maxRecDepth 100000 in
theorem k_X4_undo_0 (l : Launch) (D : va_G) (cI cC : ClassId) (xa xb xc xd xe xf xg xh : Nat × va_E) (tl : va_W) (g : Nat → Nat) (bi wh se pi : Nat → Int32) (al tp bd : Int32)   : hsI l yX4_undo wsX4_undo rX4_undo D vwCl (hsT cI cC) [.ref (g 8)] (hmW xa xb xc xd xe xf xg xh tl g cI bi wh se pi (nI 0) al tp bd) (fun r w => r = (-2) ∧ w = (hmW xa xb xc xd xe xf xg xh tl g cI bi wh se pi (nI 0) al tp bd)) := by
  refine hsI.enter (cc := cX4_undo) (maxL := 1) (ret := (some .int)) (by decide) rfl (Nat.le_of_ble_eq_true rfl) ?_
  intro Pg En Ss Mi Ar Be Me Co AA QQ hQ h hr hlk
  refine hs_lv (lv' := [(0, .ref (g 8))]) rfl ?_
  refine hv_aload_n h dX4_undo_0 0 rfl rfl ?_
  refine hv_get (C := RX4) (T := TX4) (N := 8) h 8 rfl rfl 1 (by decide) wu_X4 w_fieldLink_X4_30 (fun _ h9 => h9) rfl dX4_undo_1 ?_
  refine hv_if_ne h 10 dX4_undo_4 rfl (fun hc => absurd rfl hc) (fun c4 => ?_)
  refine hv_bipush h ((-2)) dX4_undo_7 (by decide) ?_
  exact hv_iret h hr hlk hQ dX4_undo_9 ⟨rfl, rfl⟩
set_option maxHeartbeats 1000000 in
set_option maxRecDepth 100000 in
theorem k_X4_undo_1 (l : Launch) (D : va_G) (cI cC : ClassId) (xa xb xc xd xe xf xg xh : Nat × va_E) (tl : va_W) (g : Nat → Nat) (bi wh se pi : Nat → Int32) (d sg : Nat) (al tp bd : Int32)  (hd : d < 12) (hw : wh d = nI sg) (hsg : sg < 6) : hsI l yX4_undo wsX4_undo rX4_undo D vwCl (hsT cI cC) [.ref (g 8)] (hmW xa xb xc xd xe xf xg xh tl g cI bi wh se pi (nI (d + 1)) al tp bd) (fun r w => r = nI sg ∧ w = (hmW xa xb xc xd xe xf xg xh tl g cI (hy_cpy bi (1008 + (144 * d)) (144 * sg)) wh se pi (nI d) al tp bd)) := by
  refine hsI.enter (cc := cX4_undo) (maxL := 1) (ret := (some .int)) (by decide) rfl (Nat.le_of_ble_eq_true rfl) ?_
  intro Pg En Ss Mi Ar Be Me Co AA QQ hQ h hr hlk
  refine hs_lv (lv' := [(0, .ref (g 8))]) rfl ?_
  refine hv_aload_n h dX4_undo_0 0 rfl rfl ?_
  refine hv_get (C := RX4) (T := TX4) (N := 8) h 8 rfl rfl 1 (by decide) wu_X4 w_fieldLink_X4_30 (fun _ h9 => h9) rfl dX4_undo_1 ?_
  refine hv_if_ne h 10 dX4_undo_4 rfl (fun c4 => ?_) (fun hc => absurd hc (nI_ne0 (by omega) (by omega)))
  refine hv_aload_n h dX4_undo_10 0 rfl rfl ?_
  refine hv_dup h dX4_undo_11 rfl ?_
  refine hv_get (C := RX4) (T := TX4) (N := 8) h 8 rfl rfl 1 (by decide) wu_X4 w_fieldLink_X4_30 (fun _ h9 => h9) rfl dX4_undo_12 ?_
  refine hv_iconst h (1) dX4_undo_15 (by decide) ?_
  refine hw_isub h (nI d) dX4_undo_16 (nI_pred _) ?_
  refine hv_put (ws' := (hmW xa xb xc xd xe xf xg xh tl g cI bi wh se pi (nI d) al tp bd)) (ty := .int) (C := RX4) (T := TX4) (N := 8) h 8 rfl rfl 1 (by decide) wu_X4 tyX4 tyX4_ok nX4 w_fieldLink_X4_30 (fun _ h9 => h9) rfl (by decide +kernel) rfl rfl (Nat.le_of_ble_eq_true rfl) dX4_undo_17 rfl ?_
  refine hv_aload_n h dX4_undo_20 0 rfl rfl ?_
  refine hv_sipush h (1008) dX4_undo_21 (by decide) ?_
  refine hv_sipush h (144) dX4_undo_24 (by decide) ?_
  refine hv_aload_n h dX4_undo_27 0 rfl rfl ?_
  refine hv_get (C := RX4) (T := TX4) (N := 8) h 8 rfl rfl 1 (by decide) wu_X4 w_fieldLink_X4_30 (fun _ h9 => h9) rfl dX4_undo_28 ?_
  refine hw_imul h (nI (144 * d)) dX4_undo_31 (pk_mul 144 d) ?_
  refine hw_iadd h (nI (1008 + (144 * d))) dX4_undo_32 (nI_add 1008 (144 * d)) ?_
  refine hv_sipush h (144) dX4_undo_33 (by decide) ?_
  refine hv_aload_n h dX4_undo_36 0 rfl rfl ?_
  refine hv_get (C := RX4) (T := TX4) (N := 8) h 8 rfl rfl 3 (by decide) wu_X4 w_fieldLink_X4_13 (fun _ h9 => h9) rfl dX4_undo_37 ?_
  refine hv_aload_n h dX4_undo_40 0 rfl rfl ?_
  refine hv_get (C := RX4) (T := TX4) (N := 8) h 8 rfl rfl 1 (by decide) wu_X4 w_fieldLink_X4_30 (fun _ h9 => h9) rfl dX4_undo_41 ?_
  refine hv_iald (v := wh d) h 10 0 rfl rfl (vp_in_nI (by omega) (by decide)) (by rw [nI_clamp (by omega)]) dX4_undo_44 ?_
  refine hs_top hw ?_
  refine hw_imul h (nI (144 * sg)) dX4_undo_45 (pk_mul 144 sg) ?_
  refine hv_callw (ws' := (hmW xa xb xc xd xe xf xg xh tl g cI (hy_cpy bi (1008 + (144 * d)) (144 * sg)) wh se pi (nI d) al tp bd)) h (hr_Vv (n := 2) (rest := []) h 8 rfl rfl (k_X4_copy l D cI cC xa xb xc xd xe xf xg xh tl g bi wh se pi (nI d) al tp bd (1008 + (144 * d)) (144 * sg) (by omega) (by omega)) w_methodLink_X4_34 w_instanceMethod_X4_copy w_selects_X4_copy w_initialized_X4 w_code_X4_copy (by decide +kernel) rfl rfl rfl ⟨by decide, by decide⟩ rfl (Nat.le_of_ble_eq_true rfl) ⟨Nat.zero_le _, Nat.zero_le _⟩ dX4_undo_46) ?_
  refine hv_aload_n h dX4_undo_49 0 rfl rfl ?_
  refine hv_get (C := RX4) (T := TX4) (N := 8) h 8 rfl rfl 3 (by decide) wu_X4 w_fieldLink_X4_13 (fun _ h9 => h9) rfl dX4_undo_50 ?_
  refine hv_aload_n h dX4_undo_53 0 rfl rfl ?_
  refine hv_get (C := RX4) (T := TX4) (N := 8) h 8 rfl rfl 1 (by decide) wu_X4 w_fieldLink_X4_30 (fun _ h9 => h9) rfl dX4_undo_54 ?_
  refine hv_iald (v := wh d) h 10 0 rfl rfl (vp_in_nI (by omega) (by decide)) (by rw [nI_clamp (by omega)]) dX4_undo_57 ?_
  refine hs_top hw ?_
  exact hv_iret h hr hlk hQ dX4_undo_58 ⟨rfl, rfl⟩
abbrev rX4_redo : Room := { frames := 1, cells := 0, slots := 0, locals := 23 }
set_option maxHeartbeats 1000000 in
set_option maxRecDepth 100000 in
theorem k_X4_redo_0 (l : Launch) (D : va_G) (cI cC : ClassId) (xa xb xc xd xe xf xg xh : Nat × va_E) (tl : va_W) (g : Nat → Nat) (bi wh se pi : Nat → Int32) (d : Nat) (tp bd : Int32)   : hsI l yX4_redo wsX4_redo rX4_redo D vwCl (hsT cI cC) [.ref (g 8)] (hmW xa xb xc xd xe xf xg xh tl g cI bi wh se pi (nI d) (nI d) tp bd) (fun r w => r = (-2) ∧ w = (hmW xa xb xc xd xe xf xg xh tl g cI bi wh se pi (nI d) (nI d) tp bd)) := by
  refine hsI.enter (cc := cX4_redo) (maxL := 1) (ret := (some .int)) (by decide) rfl (Nat.le_of_ble_eq_true rfl) ?_
  intro Pg En Ss Mi Ar Be Me Co AA QQ hQ h hr hlk
  refine hs_lv (lv' := [(0, .ref (g 8))]) rfl ?_
  refine hv_aload_n h dX4_redo_0 0 rfl rfl ?_
  refine hv_get (C := RX4) (T := TX4) (N := 8) h 8 rfl rfl 1 (by decide) wu_X4 w_fieldLink_X4_30 (fun _ h9 => h9) rfl dX4_redo_1 ?_
  refine hv_aload_n h dX4_redo_4 0 rfl rfl ?_
  refine hv_get (C := RX4) (T := TX4) (N := 8) h 8 rfl rfl 2 (by decide) wu_X4 w_fieldLink_X4_38 (fun _ h9 => h9) rfl dX4_redo_5 ?_
  refine hv_icmp_ne h 14 dX4_redo_8 rfl (fun hc => absurd rfl hc) (fun c8 => ?_)
  refine hv_bipush h ((-2)) dX4_redo_11 (by decide) ?_
  exact hv_iret h hr hlk hQ dX4_redo_13 ⟨rfl, rfl⟩
set_option maxHeartbeats 1000000 in
set_option maxRecDepth 100000 in
theorem k_X4_redo_1 (l : Launch) (D : va_G) (cI cC : ClassId) (xa xb xc xd xe xf xg xh : Nat × va_E) (tl : va_W) (g : Nat → Nat) (bi wh se pi : Nat → Int32) (d a sg : Nat) (tp bd : Int32)  (hda : d < a) (ha : a ≤ 12) (hw : wh d = nI sg) (hsg : sg < 6) : hsI l yX4_redo wsX4_redo rX4_redo D vwCl (hsT cI cC) [.ref (g 8)] (hmW xa xb xc xd xe xf xg xh tl g cI bi wh se pi (nI d) (nI a) tp bd) (fun r w => r = nI sg ∧ w = (hmW xa xb xc xd xe xf xg xh tl g cI (hy_cpy bi (2736 + (144 * d)) (144 * sg)) wh se pi (nI (d + 1)) (nI a) tp bd)) := by
  refine hsI.enter (cc := cX4_redo) (maxL := 1) (ret := (some .int)) (by decide) rfl (Nat.le_of_ble_eq_true rfl) ?_
  intro Pg En Ss Mi Ar Be Me Co AA QQ hQ h hr hlk
  refine hs_lv (lv' := [(0, .ref (g 8))]) rfl ?_
  refine hv_aload_n h dX4_redo_0 0 rfl rfl ?_
  refine hv_get (C := RX4) (T := TX4) (N := 8) h 8 rfl rfl 1 (by decide) wu_X4 w_fieldLink_X4_30 (fun _ h9 => h9) rfl dX4_redo_1 ?_
  refine hv_aload_n h dX4_redo_4 0 rfl rfl ?_
  refine hv_get (C := RX4) (T := TX4) (N := 8) h 8 rfl rfl 2 (by decide) wu_X4 w_fieldLink_X4_38 (fun _ h9 => h9) rfl dX4_redo_5 ?_
  refine hv_icmp_ne h 14 dX4_redo_8 rfl (fun c8 => ?_) (fun hc => absurd ((nI_eq (by omega) (by omega)).mp hc) (by omega))
  refine hv_aload_n h dX4_redo_14 0 rfl rfl ?_
  refine hv_sipush h (2736) dX4_redo_15 (by decide) ?_
  refine hv_sipush h (144) dX4_redo_18 (by decide) ?_
  refine hv_aload_n h dX4_redo_21 0 rfl rfl ?_
  refine hv_get (C := RX4) (T := TX4) (N := 8) h 8 rfl rfl 1 (by decide) wu_X4 w_fieldLink_X4_30 (fun _ h9 => h9) rfl dX4_redo_22 ?_
  refine hw_imul h (nI (144 * d)) dX4_redo_25 (pk_mul 144 d) ?_
  refine hw_iadd h (nI (2736 + (144 * d))) dX4_redo_26 (nI_add 2736 (144 * d)) ?_
  refine hv_sipush h (144) dX4_redo_27 (by decide) ?_
  refine hv_aload_n h dX4_redo_30 0 rfl rfl ?_
  refine hv_get (C := RX4) (T := TX4) (N := 8) h 8 rfl rfl 3 (by decide) wu_X4 w_fieldLink_X4_13 (fun _ h9 => h9) rfl dX4_redo_31 ?_
  refine hv_aload_n h dX4_redo_34 0 rfl rfl ?_
  refine hv_get (C := RX4) (T := TX4) (N := 8) h 8 rfl rfl 1 (by decide) wu_X4 w_fieldLink_X4_30 (fun _ h9 => h9) rfl dX4_redo_35 ?_
  refine hv_iald (v := wh d) h 10 0 rfl rfl (vp_in_nI (by omega) (by decide)) (by rw [nI_clamp (by omega)]) dX4_redo_38 ?_
  refine hs_top hw ?_
  refine hw_imul h (nI (144 * sg)) dX4_redo_39 (pk_mul 144 sg) ?_
  refine hv_callw (ws' := (hmW xa xb xc xd xe xf xg xh tl g cI (hy_cpy bi (2736 + (144 * d)) (144 * sg)) wh se pi (nI d) (nI a) tp bd)) h (hr_Vv (n := 2) (rest := []) h 8 rfl rfl (k_X4_copy l D cI cC xa xb xc xd xe xf xg xh tl g bi wh se pi (nI d) (nI a) tp bd (2736 + (144 * d)) (144 * sg) (by omega) (by omega)) w_methodLink_X4_34 w_instanceMethod_X4_copy w_selects_X4_copy w_initialized_X4 w_code_X4_copy (by decide +kernel) rfl rfl rfl ⟨by decide, by decide⟩ rfl (Nat.le_of_ble_eq_true rfl) ⟨Nat.zero_le _, Nat.zero_le _⟩ dX4_redo_40) ?_
  refine hv_aload_n h dX4_redo_43 0 rfl rfl ?_
  refine hv_dup h dX4_redo_44 rfl ?_
  refine hv_get (C := RX4) (T := TX4) (N := 8) h 8 rfl rfl 1 (by decide) wu_X4 w_fieldLink_X4_30 (fun _ h9 => h9) rfl dX4_redo_45 ?_
  refine hv_iconst h (1) dX4_redo_48 (by decide) ?_
  refine hw_iadd h (nI (d + 1)) dX4_redo_49 (nI_add d 1) ?_
  refine hv_put (ws' := (hmW xa xb xc xd xe xf xg xh tl g cI (hy_cpy bi (2736 + (144 * d)) (144 * sg)) wh se pi (nI (d + 1)) (nI a) tp bd)) (ty := .int) (C := RX4) (T := TX4) (N := 8) h 8 rfl rfl 1 (by decide) wu_X4 tyX4 tyX4_ok nX4 w_fieldLink_X4_30 (fun _ h9 => h9) rfl (by decide +kernel) rfl rfl (Nat.le_of_ble_eq_true rfl) dX4_redo_50 rfl ?_
  refine hv_aload_n h dX4_redo_53 0 rfl rfl ?_
  refine hv_get (C := RX4) (T := TX4) (N := 8) h 8 rfl rfl 3 (by decide) wu_X4 w_fieldLink_X4_13 (fun _ h9 => h9) rfl dX4_redo_54 ?_
  refine hv_aload_n h dX4_redo_57 0 rfl rfl ?_
  refine hv_get (C := RX4) (T := TX4) (N := 8) h 8 rfl rfl 1 (by decide) wu_X4 w_fieldLink_X4_30 (fun _ h9 => h9) rfl dX4_redo_58 ?_
  refine hv_iconst h (1) dX4_redo_61 (by decide) ?_
  refine hw_isub h (nI d) dX4_redo_62 (nI_pred _) ?_
  refine hv_iald (v := wh d) h 10 0 rfl rfl (vp_in_nI (by omega) (by decide)) (by rw [nI_clamp (by omega)]) dX4_redo_63 ?_
  refine hs_top hw ?_
  exact hv_iret h hr hlk hQ dX4_redo_64 ⟨rfl, rfl⟩
