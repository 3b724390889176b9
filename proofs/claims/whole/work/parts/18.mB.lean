def hy_ev (bi : Nat → Int32) (s ax o u : Nat) (n : Int32) : Int32 := hx_it (fun v n => n + hx_s (hy_ed bi s (nI ax) (nI o) (nI u) (nI v)) 1 0) 13 n
def hy_eu (bi : Nat → Int32) (s ax o : Nat) (n : Int32) : Int32 := hx_it (fun u n => hy_ev bi s ax o u n) 13 n
def hy_eo (bi : Nat → Int32) (s ax : Nat) (n : Int32) : Int32 := hx_it (fun o n => hy_eu bi s ax o n) 12 n
def hy_egs (bi : Nat → Int32) (s : Nat) : Int32 := hx_it (fun ax n => hy_eo bi s ax n) 3 0
abbrev rX4_volume : Room := { frames := 1, cells := 0, slots := 0, locals := 23 }
set_option maxHeartbeats 1000000 in
set_option maxRecDepth 100000 in
theorem k_X4_volume (l : Launch) (D : va_G) (cI cC : ClassId) (xa xb xc xd xe xf xg xh : Nat × va_E) (tl : va_W) (g : Nat → Nat) (bi wh se pi : Nat → Int32) (dn al tp bd : Int32) (s0 : Int32)  : hsI l yX4_volume wsX4_volume rX4_volume D vwCl (hsT cI cC) [.ref (g 8), .int s0] (hmW xa xb xc xd xe xf xg xh tl g cI bi wh se pi dn al tp bd) (fun r w => r = hc_if (hx_in s0 6) (-1) (hy_cnt bi s0.toNatClampNeg) ∧ w = (hmW xa xb xc xd xe xf xg xh tl g cI bi wh se pi dn al tp bd)) := by
  refine hsI.enter (cc := cX4_volume) (maxL := 2) (ret := (some .int)) (by decide) rfl (Nat.le_of_ble_eq_true rfl) ?_
  intro Pg En Ss Mi Ar Be Me Co AA QQ hQ h hr hlk
  refine hs_lv (lv' := [(0, .ref (g 8)), (1, .int s0)]) rfl ?_
  refine hv_iload_n h dX4_volume_0 1 rfl rfl ?_
  refine hv_callp (ws' := (hmW xa xb xc xd xe xf xg xh tl g cI bi wh se pi dn al tp bd)) (v := hx_b (hx_in s0 6)) h (hr_Si (n := 1) (rest := []) h (k_X4_isSolid l D cI cC (hmW xa xb xc xd xe xf xg xh tl g cI bi wh se pi dn al tp bd) s0) w_methodLink_X4_45 w_static_X4_isSolid w_initialized_X4 w_code_X4_isSolid (by decide +kernel) rfl rfl rfl ⟨by decide, by decide⟩ rfl (Nat.le_of_ble_eq_true rfl) ⟨Nat.zero_le _, Nat.zero_le _⟩ dX4_volume_1) ?_
  refine hv_bif_eq h 15 dX4_volume_4 rfl (fun c4 => ?_) (fun c4 => ?_)
  · refine hv_iconst h ((-1)) dX4_volume_15 (by decide) ?_
    exact hv_iret h hr hlk hQ dX4_volume_16 ⟨(by simp [hc_if, c4]), rfl⟩
  · obtain ⟨i0, hi0, rfl⟩ := hx_in_nat (n := 6) (by decide) c4
    have hcli0 : (nI i0).toNatClampNeg = i0 := nI_clamp (by omega)
    refine hv_aload_n h dX4_volume_7 0 rfl rfl ?_
    refine hv_iload_n h dX4_volume_8 1 rfl rfl ?_
    refine hv_callp (ws' := (hmW xa xb xc xd xe xf xg xh tl g cI bi wh se pi dn al tp bd)) (v := hy_cnt bi i0) h (hr_Vi (n := 1) (rest := []) h 8 rfl rfl (k_X4_count l D cI cC xa xb xc xd xe xf xg xh tl g bi wh se pi dn al tp bd i0 (by omega)) w_methodLink_X4_41 w_instanceMethod_X4_count w_selects_X4_count w_initialized_X4 w_code_X4_count (by decide +kernel) rfl rfl rfl ⟨by decide, by decide⟩ rfl (Nat.le_of_ble_eq_true rfl) ⟨Nat.zero_le _, Nat.zero_le _⟩ dX4_volume_9) ?_
    refine hv_goto h 16 dX4_volume_12 rfl ?_
    exact hv_iret h hr hlk hQ dX4_volume_16 ⟨(by simp [hc_if, c4, hcli0]), rfl⟩
abbrev rX4_sides : Room := { frames := 2, cells := 0, slots := 0, locals := 45 }
set_option maxHeartbeats 1000000 in
set_option maxRecDepth 100000 in
theorem k_X4_sides (l : Launch) (D : va_G) (cI cC : ClassId) (xa xb xc xd xe xf xg xh : Nat × va_E) (tl : va_W) (g : Nat → Nat) (bi wh se pi : Nat → Int32) (dn al tp bd : Int32) (s0 : Int32)  : hsI l yX4_sides wsX4_sides rX4_sides D vwCl (hsT cI cC) [.ref (g 8), .int s0] (hmW xa xb xc xd xe xf xg xh tl g cI bi wh se pi dn al tp bd) (fun r w => r = hc_if (hx_in s0 6) (-1) (hy_sd bi s0.toNatClampNeg) ∧ w = (hmW xa xb xc xd xe xf xg xh tl g cI bi wh se pi dn al tp bd)) := by
  refine hsI.enter (cc := cX4_sides) (maxL := 7) (ret := (some .int)) (by decide) rfl (Nat.le_of_ble_eq_true rfl) ?_
  intro Pg En Ss Mi Ar Be Me Co AA QQ hQ h hr hlk
  refine hs_lv (lv' := [(0, .ref (g 8)), (1, .int s0)]) rfl ?_
  refine hv_iload_n h dX4_sides_0 1 rfl rfl ?_
  refine hv_callp (ws' := (hmW xa xb xc xd xe xf xg xh tl g cI bi wh se pi dn al tp bd)) (v := hx_b (hx_in s0 6)) h (hr_Si (n := 1) (rest := []) h (k_X4_isSolid l D cI cC (hmW xa xb xc xd xe xf xg xh tl g cI bi wh se pi dn al tp bd) s0) w_methodLink_X4_45 w_static_X4_isSolid w_initialized_X4 w_code_X4_isSolid (by decide +kernel) rfl rfl rfl ⟨by decide, by decide⟩ rfl (Nat.le_of_ble_eq_true rfl) ⟨Nat.zero_le _, Nat.zero_le _⟩ dX4_sides_1) ?_
  refine hv_bif_ne h 9 dX4_sides_4 rfl (fun c4 => ?_) (fun c4 => ?_)
  · obtain ⟨i0, hi0, rfl⟩ := hx_in_nat (n := 6) (by decide) c4
    have hcli0 : (nI i0).toNatClampNeg = i0 := nI_clamp (by omega)
    refine hv_iconst h (0) dX4_sides_9 (by decide) ?_
    refine hv_istore_n h [(2, .int 0), (0, .ref (g 8)), (1, .int (nI i0))] dX4_sides_10 rfl (by decide) rfl ?_
    refine hv_iconst h (nI 0) dX4_sides_11 (by decide) ?_
    refine hv_istore_n h [(3, .int (nI 0)), (2, .int 0), (0, .ref (g 8)), (1, .int (nI i0))] dX4_sides_12 rfl (by decide) rfl ?_
    have L13 : ∀ d13 k : Nat, k + d13 = 1728 → ∀ (b2 : Int32), b2 = hx_it (fun k n => hy_sd1 bi i0 k n) k 0 → hsV Pg l En rX4_sides Ss Mi Ar Be Me Co QQ 7 D vwCl AA Ss.heap 0 0 13 [(3, .int (nI k)), (2, .int b2), (0, .ref (g 8)), (1, .int (nI i0))] (hmW xa xb xc xd xe xf xg xh tl g cI bi wh se pi dn al tp bd) [] := by
      intro d13
      induction d13 with
      | zero =>
        intro k kq13 b2 e_b2
        obtain rfl : k = 1728 := by omega
        refine hv_iload_n h dX4_sides_13 0 rfl rfl ?_
        refine hv_sipush h (nI 1728) dX4_sides_14 (by decide) ?_
        refine hv_icmp_ge h 198 dX4_sides_17 rfl (fun c17 => ?_) (fun hc => absurd (Int32.le_refl _) hc)
        refine hv_iload_n h dX4_sides_198 1 rfl rfl ?_
        exact hv_iret h hr hlk hQ dX4_sides_199 ⟨(by rw [e_b2]; simp [hc_if, hy_sd, c4, hcli0]), rfl⟩
      | succ d13 ih13 =>
        intro k kq13 b2 e_b2
        have hlt13 : k < 1728 := by omega
        refine hv_iload_n h dX4_sides_13 0 rfl rfl ?_
        refine hv_sipush h (nI 1728) dX4_sides_14 (by decide) ?_
        refine hv_icmp_ge h 198 dX4_sides_17 rfl (fun hc => absurd hc (nI_ge hlt13 (by decide))) (fun c17 => ?_)
        refine hv_iload_n h dX4_sides_20 0 rfl rfl ?_
        refine hv_sipush h (144) dX4_sides_21 (by decide) ?_
        refine hw_idiv h (nI (k / 144)) dX4_sides_24 (by decide) (pk_div (by omega) (by decide) (by decide)) ?_
        refine hv_istore h [(4, .int (nI (k / 144))), (3, .int (nI k)), (2, .int b2), (0, .ref (g 8)), (1, .int (nI i0))] dX4_sides_25 (by decide) rfl ?_
        refine hv_iload_n h dX4_sides_27 1 rfl rfl ?_
        refine hv_bipush h (12) dX4_sides_28 (by decide) ?_
        refine hw_idiv h (nI (k / 12)) dX4_sides_30 (by decide) (pk_div (by omega) (by decide) (by decide)) ?_
        refine hv_bipush h (12) dX4_sides_31 (by decide) ?_
        refine hw_irem h (nI ((k / 12) % 12)) dX4_sides_33 (by decide) (pk_rem (by omega) (by decide) (by decide)) ?_
        refine hv_istore h [(5, .int (nI ((k / 12) % 12))), (4, .int (nI (k / 144))), (3, .int (nI k)), (2, .int b2), (0, .ref (g 8)), (1, .int (nI i0))] dX4_sides_34 (by decide) rfl ?_
        refine hv_iload_n h dX4_sides_36 2 rfl rfl ?_
        refine hv_bipush h (12) dX4_sides_37 (by decide) ?_
        refine hw_irem h (nI (k % 12)) dX4_sides_39 (by decide) (pk_rem (by omega) (by decide) (by decide)) ?_
        refine hv_istore h [(6, .int (nI (k % 12))), (5, .int (nI ((k / 12) % 12))), (4, .int (nI (k / 144))), (3, .int (nI k)), (2, .int b2), (0, .ref (g 8)), (1, .int (nI i0))] dX4_sides_40 (by decide) rfl ?_
        refine hv_aload_n h dX4_sides_42 5 rfl rfl ?_
        refine hv_iload_n h dX4_sides_43 6 rfl rfl ?_
        refine hv_iload h dX4_sides_44 2 rfl ?_
        refine hv_iload h dX4_sides_46 1 rfl ?_
        refine hv_iload h dX4_sides_48 0 rfl ?_
        refine hv_callp (ws' := (hmW xa xb xc xd xe xf xg xh tl g cI bi wh se pi dn al tp bd)) (v := hx_b (hy_has bi i0 (nI (k / 144)) (nI ((k / 12) % 12)) (nI (k % 12)))) h (hr_Vi (n := 4) (rest := []) h 8 rfl rfl (k_X4_has l D cI cC xa xb xc xd xe xf xg xh tl g bi wh se pi dn al tp bd i0 (nI (k / 144)) (nI ((k / 12) % 12)) (nI (k % 12)) (by omega)) w_methodLink_X4_26 w_instanceMethod_X4_has w_selects_X4_has w_initialized_X4 w_code_X4_has (by decide +kernel) rfl rfl rfl ⟨by decide, by decide⟩ rfl (Nat.le_of_ble_eq_true rfl) ⟨Nat.zero_le _, Nat.zero_le _⟩ dX4_sides_50) ?_
        refine hv_bif_eq h 192 dX4_sides_53 rfl (fun c53 => ?_) (fun c53 => ?_)
        · refine hv_iinc h (nI (k + 1)) [(3, .int (nI (k + 1))), (6, .int (nI (k % 12))), (5, .int (nI ((k / 12) % 12))), (4, .int (nI (k / 144))), (2, .int b2), (0, .ref (g 8)), (1, .int (nI i0))] dX4_sides_192 3 rfl (hs_inc _) (by decide) rfl ?_
          refine hv_goto h 13 dX4_sides_195 rfl ?_
          refine hs_pick (lv' := [(3, .int (nI (k + 1))), (2, .int b2), (0, .ref (g 8)), (1, .int (nI i0))]) [0, 4, 5, 6] rfl ?_
          exact ih13 (k + 1) (by omega) _ (by rw [hx_it_s, ← e_b2]; try first | assumption | with_reducible rfl | (simp [hy_sd1, c4, hcli0, c17, c53]; done))
        · refine hv_iload_n h dX4_sides_56 4 rfl rfl ?_
          refine hv_aload_n h dX4_sides_57 5 rfl rfl ?_
          refine hv_iload_n h dX4_sides_58 6 rfl rfl ?_
          refine hv_iload h dX4_sides_59 2 rfl ?_
          refine hv_iconst h (1) dX4_sides_61 (by decide) ?_
          refine hv_isub h dX4_sides_62 ?_
          refine hv_iload h dX4_sides_63 1 rfl ?_
          refine hv_iload h dX4_sides_65 0 rfl ?_
          refine hv_callp (ws' := (hmW xa xb xc xd xe xf xg xh tl g cI bi wh se pi dn al tp bd)) (v := hx_b (hy_has bi i0 ((nI (k / 144)) - 1) (nI ((k / 12) % 12)) (nI (k % 12)))) h (hr_Vi (n := 4) (rest := [.int b2]) h 8 rfl rfl (k_X4_has l D cI cC xa xb xc xd xe xf xg xh tl g bi wh se pi dn al tp bd i0 ((nI (k / 144)) - 1) (nI ((k / 12) % 12)) (nI (k % 12)) (by omega)) w_methodLink_X4_26 w_instanceMethod_X4_has w_selects_X4_has w_initialized_X4 w_code_X4_has (by decide +kernel) rfl rfl rfl ⟨by decide, by decide⟩ rfl (Nat.le_of_ble_eq_true rfl) ⟨Nat.zero_le _, Nat.zero_le _⟩ dX4_sides_67) ?_
          refine hv_sel h 0 1 dX4_sides_70 rfl dX4_sides_73 (by decide) dX4_sides_74 rfl dX4_sides_77 (by decide) ?_
          refine hv_aload_n h dX4_sides_78 5 rfl rfl ?_
          refine hv_iload_n h dX4_sides_79 6 rfl rfl ?_
          refine hv_iload h dX4_sides_80 2 rfl ?_
          refine hv_iconst h (1) dX4_sides_82 (by decide) ?_
          refine hw_iadd h (nI ((k / 144) + 1)) dX4_sides_83 (nI_add (k / 144) 1) ?_
          refine hv_iload h dX4_sides_84 1 rfl ?_
          refine hv_iload h dX4_sides_86 0 rfl ?_
          refine hv_callp (ws' := (hmW xa xb xc xd xe xf xg xh tl g cI bi wh se pi dn al tp bd)) (v := hx_b (hy_has bi i0 (nI ((k / 144) + 1)) (nI ((k / 12) % 12)) (nI (k % 12)))) h (hr_Vi (n := 4) (rest := [.int (hx_s (hy_has bi i0 ((nI (k / 144)) - 1) (nI ((k / 12) % 12)) (nI (k % 12))) 0 1), .int b2]) h 8 rfl rfl (k_X4_has l D cI cC xa xb xc xd xe xf xg xh tl g bi wh se pi dn al tp bd i0 (nI ((k / 144) + 1)) (nI ((k / 12) % 12)) (nI (k % 12)) (by omega)) w_methodLink_X4_26 w_instanceMethod_X4_has w_selects_X4_has w_initialized_X4 w_code_X4_has (by decide +kernel) rfl rfl rfl ⟨by decide, by decide⟩ rfl (Nat.le_of_ble_eq_true rfl) ⟨Nat.zero_le _, Nat.zero_le _⟩ dX4_sides_88) ?_
          refine hv_sel h 0 1 dX4_sides_91 rfl dX4_sides_94 (by decide) dX4_sides_95 rfl dX4_sides_98 (by decide) ?_
          refine hv_iadd h dX4_sides_99 ?_
          refine hv_aload_n h dX4_sides_100 5 rfl rfl ?_
          refine hv_iload_n h dX4_sides_101 6 rfl rfl ?_
          refine hv_iload h dX4_sides_102 2 rfl ?_
          refine hv_iload h dX4_sides_104 1 rfl ?_
          refine hv_iconst h (1) dX4_sides_106 (by decide) ?_
          refine hv_isub h dX4_sides_107 ?_
          refine hv_iload h dX4_sides_108 0 rfl ?_
          refine hv_callp (ws' := (hmW xa xb xc xd xe xf xg xh tl g cI bi wh se pi dn al tp bd)) (v := hx_b (hy_has bi i0 (nI (k / 144)) ((nI ((k / 12) % 12)) - 1) (nI (k % 12)))) h (hr_Vi (n := 4) (rest := [.int ((hx_s (hy_has bi i0 ((nI (k / 144)) - 1) (nI ((k / 12) % 12)) (nI (k % 12))) 0 1) + (hx_s (hy_has bi i0 (nI ((k / 144) + 1)) (nI ((k / 12) % 12)) (nI (k % 12))) 0 1)), .int b2]) h 8 rfl rfl (k_X4_has l D cI cC xa xb xc xd xe xf xg xh tl g bi wh se pi dn al tp bd i0 (nI (k / 144)) ((nI ((k / 12) % 12)) - 1) (nI (k % 12)) (by omega)) w_methodLink_X4_26 w_instanceMethod_X4_has w_selects_X4_has w_initialized_X4 w_code_X4_has (by decide +kernel) rfl rfl rfl ⟨by decide, by decide⟩ rfl (Nat.le_of_ble_eq_true rfl) ⟨Nat.zero_le _, Nat.zero_le _⟩ dX4_sides_110) ?_
          refine hv_sel h 0 1 dX4_sides_113 rfl dX4_sides_116 (by decide) dX4_sides_117 rfl dX4_sides_120 (by decide) ?_
          refine hv_iadd h dX4_sides_121 ?_
          refine hv_iadd h dX4_sides_122 ?_
          refine hv_istore_n h [(2, .int (b2 + (((hx_s (hy_has bi i0 ((nI (k / 144)) - 1) (nI ((k / 12) % 12)) (nI (k % 12))) 0 1) + (hx_s (hy_has bi i0 (nI ((k / 144) + 1)) (nI ((k / 12) % 12)) (nI (k % 12))) 0 1)) + (hx_s (hy_has bi i0 (nI (k / 144)) ((nI ((k / 12) % 12)) - 1) (nI (k % 12))) 0 1)))), (6, .int (nI (k % 12))), (5, .int (nI ((k / 12) % 12))), (4, .int (nI (k / 144))), (3, .int (nI k)), (0, .ref (g 8)), (1, .int (nI i0))] dX4_sides_123 rfl (by decide) rfl ?_
          refine hv_iload_n h dX4_sides_124 0 rfl rfl ?_
          refine hv_aload_n h dX4_sides_125 5 rfl rfl ?_
          refine hv_iload_n h dX4_sides_126 6 rfl rfl ?_
          refine hv_iload h dX4_sides_127 3 rfl ?_
          refine hv_iload h dX4_sides_129 2 rfl ?_
          refine hv_iconst h (1) dX4_sides_131 (by decide) ?_
          refine hw_iadd h (nI (((k / 12) % 12) + 1)) dX4_sides_132 (nI_add ((k / 12) % 12) 1) ?_
          refine hv_iload h dX4_sides_133 1 rfl ?_
          refine hv_callp (ws' := (hmW xa xb xc xd xe xf xg xh tl g cI bi wh se pi dn al tp bd)) (v := hx_b (hy_has bi i0 (nI (k / 144)) (nI (((k / 12) % 12) + 1)) (nI (k % 12)))) h (hr_Vi (n := 4) (rest := [.int (b2 + (((hx_s (hy_has bi i0 ((nI (k / 144)) - 1) (nI ((k / 12) % 12)) (nI (k % 12))) 0 1) + (hx_s (hy_has bi i0 (nI ((k / 144) + 1)) (nI ((k / 12) % 12)) (nI (k % 12))) 0 1)) + (hx_s (hy_has bi i0 (nI (k / 144)) ((nI ((k / 12) % 12)) - 1) (nI (k % 12))) 0 1)))]) h 8 rfl rfl (k_X4_has l D cI cC xa xb xc xd xe xf xg xh tl g bi wh se pi dn al tp bd i0 (nI (k / 144)) (nI (((k / 12) % 12) + 1)) (nI (k % 12)) (by omega)) w_methodLink_X4_26 w_instanceMethod_X4_has w_selects_X4_has w_initialized_X4 w_code_X4_has (by decide +kernel) rfl rfl rfl ⟨by decide, by decide⟩ rfl (Nat.le_of_ble_eq_true rfl) ⟨Nat.zero_le _, Nat.zero_le _⟩ dX4_sides_135) ?_
          refine hv_sel h 0 1 dX4_sides_138 rfl dX4_sides_141 (by decide) dX4_sides_142 rfl dX4_sides_145 (by decide) ?_
          refine hv_aload_n h dX4_sides_146 5 rfl rfl ?_
          refine hv_iload_n h dX4_sides_147 6 rfl rfl ?_
          refine hv_iload h dX4_sides_148 3 rfl ?_
          refine hv_iload h dX4_sides_150 2 rfl ?_
          refine hv_iload h dX4_sides_152 1 rfl ?_
          refine hv_iconst h (1) dX4_sides_154 (by decide) ?_
          refine hv_isub h dX4_sides_155 ?_
          refine hv_callp (ws' := (hmW xa xb xc xd xe xf xg xh tl g cI bi wh se pi dn al tp bd)) (v := hx_b (hy_has bi i0 (nI (k / 144)) (nI ((k / 12) % 12)) ((nI (k % 12)) - 1))) h (hr_Vi (n := 4) (rest := [.int (hx_s (hy_has bi i0 (nI (k / 144)) (nI (((k / 12) % 12) + 1)) (nI (k % 12))) 0 1), .int (b2 + (((hx_s (hy_has bi i0 ((nI (k / 144)) - 1) (nI ((k / 12) % 12)) (nI (k % 12))) 0 1) + (hx_s (hy_has bi i0 (nI ((k / 144) + 1)) (nI ((k / 12) % 12)) (nI (k % 12))) 0 1)) + (hx_s (hy_has bi i0 (nI (k / 144)) ((nI ((k / 12) % 12)) - 1) (nI (k % 12))) 0 1)))]) h 8 rfl rfl (k_X4_has l D cI cC xa xb xc xd xe xf xg xh tl g bi wh se pi dn al tp bd i0 (nI (k / 144)) (nI ((k / 12) % 12)) ((nI (k % 12)) - 1) (by omega)) w_methodLink_X4_26 w_instanceMethod_X4_has w_selects_X4_has w_initialized_X4 w_code_X4_has (by decide +kernel) rfl rfl rfl ⟨by decide, by decide⟩ rfl (Nat.le_of_ble_eq_true rfl) ⟨Nat.zero_le _, Nat.zero_le _⟩ dX4_sides_156) ?_
          refine hv_sel h 0 1 dX4_sides_159 rfl dX4_sides_162 (by decide) dX4_sides_163 rfl dX4_sides_166 (by decide) ?_
          refine hv_iadd h dX4_sides_167 ?_
          refine hv_aload_n h dX4_sides_168 5 rfl rfl ?_
          refine hv_iload_n h dX4_sides_169 6 rfl rfl ?_
          refine hv_iload h dX4_sides_170 3 rfl ?_
          refine hv_iload h dX4_sides_172 2 rfl ?_
          refine hv_iload h dX4_sides_174 1 rfl ?_
          refine hv_iconst h (1) dX4_sides_176 (by decide) ?_
          refine hw_iadd h (nI ((k % 12) + 1)) dX4_sides_177 (nI_add (k % 12) 1) ?_
          refine hv_callp (ws' := (hmW xa xb xc xd xe xf xg xh tl g cI bi wh se pi dn al tp bd)) (v := hx_b (hy_has bi i0 (nI (k / 144)) (nI ((k / 12) % 12)) (nI ((k % 12) + 1)))) h (hr_Vi (n := 4) (rest := [.int ((hx_s (hy_has bi i0 (nI (k / 144)) (nI (((k / 12) % 12) + 1)) (nI (k % 12))) 0 1) + (hx_s (hy_has bi i0 (nI (k / 144)) (nI ((k / 12) % 12)) ((nI (k % 12)) - 1)) 0 1)), .int (b2 + (((hx_s (hy_has bi i0 ((nI (k / 144)) - 1) (nI ((k / 12) % 12)) (nI (k % 12))) 0 1) + (hx_s (hy_has bi i0 (nI ((k / 144) + 1)) (nI ((k / 12) % 12)) (nI (k % 12))) 0 1)) + (hx_s (hy_has bi i0 (nI (k / 144)) ((nI ((k / 12) % 12)) - 1) (nI (k % 12))) 0 1)))]) h 8 rfl rfl (k_X4_has l D cI cC xa xb xc xd xe xf xg xh tl g bi wh se pi dn al tp bd i0 (nI (k / 144)) (nI ((k / 12) % 12)) (nI ((k % 12) + 1)) (by omega)) w_methodLink_X4_26 w_instanceMethod_X4_has w_selects_X4_has w_initialized_X4 w_code_X4_has (by decide +kernel) rfl rfl rfl ⟨by decide, by decide⟩ rfl (Nat.le_of_ble_eq_true rfl) ⟨Nat.zero_le _, Nat.zero_le _⟩ dX4_sides_178) ?_
          refine hv_sel h 0 1 dX4_sides_181 rfl dX4_sides_184 (by decide) dX4_sides_185 rfl dX4_sides_188 (by decide) ?_
          refine hv_iadd h dX4_sides_189 ?_
          refine hv_iadd h dX4_sides_190 ?_
          refine hv_istore_n h [(2, .int ((b2 + (((hx_s (hy_has bi i0 ((nI (k / 144)) - 1) (nI ((k / 12) % 12)) (nI (k % 12))) 0 1) + (hx_s (hy_has bi i0 (nI ((k / 144) + 1)) (nI ((k / 12) % 12)) (nI (k % 12))) 0 1)) + (hx_s (hy_has bi i0 (nI (k / 144)) ((nI ((k / 12) % 12)) - 1) (nI (k % 12))) 0 1))) + (((hx_s (hy_has bi i0 (nI (k / 144)) (nI (((k / 12) % 12) + 1)) (nI (k % 12))) 0 1) + (hx_s (hy_has bi i0 (nI (k / 144)) (nI ((k / 12) % 12)) ((nI (k % 12)) - 1)) 0 1)) + (hx_s (hy_has bi i0 (nI (k / 144)) (nI ((k / 12) % 12)) (nI ((k % 12) + 1))) 0 1)))), (6, .int (nI (k % 12))), (5, .int (nI ((k / 12) % 12))), (4, .int (nI (k / 144))), (3, .int (nI k)), (0, .ref (g 8)), (1, .int (nI i0))] dX4_sides_191 rfl (by decide) rfl ?_
          refine hv_iinc h (nI (k + 1)) [(3, .int (nI (k + 1))), (2, .int ((b2 + (((hx_s (hy_has bi i0 ((nI (k / 144)) - 1) (nI ((k / 12) % 12)) (nI (k % 12))) 0 1) + (hx_s (hy_has bi i0 (nI ((k / 144) + 1)) (nI ((k / 12) % 12)) (nI (k % 12))) 0 1)) + (hx_s (hy_has bi i0 (nI (k / 144)) ((nI ((k / 12) % 12)) - 1) (nI (k % 12))) 0 1))) + (((hx_s (hy_has bi i0 (nI (k / 144)) (nI (((k / 12) % 12) + 1)) (nI (k % 12))) 0 1) + (hx_s (hy_has bi i0 (nI (k / 144)) (nI ((k / 12) % 12)) ((nI (k % 12)) - 1)) 0 1)) + (hx_s (hy_has bi i0 (nI (k / 144)) (nI ((k / 12) % 12)) (nI ((k % 12) + 1))) 0 1)))), (6, .int (nI (k % 12))), (5, .int (nI ((k / 12) % 12))), (4, .int (nI (k / 144))), (0, .ref (g 8)), (1, .int (nI i0))] dX4_sides_192 4 rfl (hs_inc _) (by decide) rfl ?_
          refine hv_goto h 13 dX4_sides_195 rfl ?_
          refine hs_pick (lv' := [(3, .int (nI (k + 1))), (2, .int ((b2 + (((hx_s (hy_has bi i0 ((nI (k / 144)) - 1) (nI ((k / 12) % 12)) (nI (k % 12))) 0 1) + (hx_s (hy_has bi i0 (nI ((k / 144) + 1)) (nI ((k / 12) % 12)) (nI (k % 12))) 0 1)) + (hx_s (hy_has bi i0 (nI (k / 144)) ((nI ((k / 12) % 12)) - 1) (nI (k % 12))) 0 1))) + (((hx_s (hy_has bi i0 (nI (k / 144)) (nI (((k / 12) % 12) + 1)) (nI (k % 12))) 0 1) + (hx_s (hy_has bi i0 (nI (k / 144)) (nI ((k / 12) % 12)) ((nI (k % 12)) - 1)) 0 1)) + (hx_s (hy_has bi i0 (nI (k / 144)) (nI ((k / 12) % 12)) (nI ((k % 12) + 1))) 0 1)))), (0, .ref (g 8)), (1, .int (nI i0))]) [0, 1, 5, 6] rfl ?_
          exact ih13 (k + 1) (by omega) _ (by rw [hx_it_s, ← e_b2]; try first | assumption | with_reducible rfl | (simp [hy_sd1, c4, hcli0, c17, c53]; done))
    exact L13 1728 0 (by omega) _ rfl
  · refine hv_iconst h ((-1)) dX4_sides_7 (by decide) ?_
    exact hv_iret h hr hlk hQ dX4_sides_8 ⟨(by simp [hc_if, c4]), rfl⟩
abbrev rX4_edges : Room := { frames := 4, cells := 0, slots := 0, locals := 100 }
set_option maxHeartbeats 1000000 in
set_option maxRecDepth 100000 in
theorem k_X4_edges (l : Launch) (D : va_G) (cI cC : ClassId) (xa xb xc xd xe xf xg xh : Nat × va_E) (tl : va_W) (g : Nat → Nat) (bi wh se pi : Nat → Int32) (dn al tp bd : Int32) (s0 : Int32)  : hsI l yX4_edges wsX4_edges rX4_edges D vwCl (hsT cI cC) [.ref (g 8), .int s0] (hmW xa xb xc xd xe xf xg xh tl g cI bi wh se pi dn al tp bd) (fun r w => r = hc_if (hx_in s0 6) (-1) (hy_egs bi s0.toNatClampNeg) ∧ w = (hmW xa xb xc xd xe xf xg xh tl g cI bi wh se pi dn al tp bd)) := by
  refine hsI.enter (cc := cX4_edges) (maxL := 7) (ret := (some .int)) (by decide) rfl (Nat.le_of_ble_eq_true rfl) ?_
  intro Pg En Ss Mi Ar Be Me Co AA QQ hQ h hr hlk
  refine hs_lv (lv' := [(0, .ref (g 8)), (1, .int s0)]) rfl ?_
  refine hv_iload_n h dX4_edges_0 1 rfl rfl ?_
  refine hv_callp (ws' := (hmW xa xb xc xd xe xf xg xh tl g cI bi wh se pi dn al tp bd)) (v := hx_b (hx_in s0 6)) h (hr_Si (n := 1) (rest := []) h (k_X4_isSolid l D cI cC (hmW xa xb xc xd xe xf xg xh tl g cI bi wh se pi dn al tp bd) s0) w_methodLink_X4_45 w_static_X4_isSolid w_initialized_X4 w_code_X4_isSolid (by decide +kernel) rfl rfl rfl ⟨by decide, by decide⟩ rfl (Nat.le_of_ble_eq_true rfl) ⟨Nat.zero_le _, Nat.zero_le _⟩ dX4_edges_1) ?_
  refine hv_bif_ne h 9 dX4_edges_4 rfl (fun c4 => ?_) (fun c4 => ?_)
  · obtain ⟨i0, hi0, rfl⟩ := hx_in_nat (n := 6) (by decide) c4
    have hcli0 : (nI i0).toNatClampNeg = i0 := nI_clamp (by omega)
    refine hv_iconst h (0) dX4_edges_9 (by decide) ?_
    refine hv_istore_n h [(2, .int 0), (0, .ref (g 8)), (1, .int (nI i0))] dX4_edges_10 rfl (by decide) rfl ?_
    refine hv_iconst h (nI 0) dX4_edges_11 (by decide) ?_
    refine hv_istore_n h [(3, .int (nI 0)), (2, .int 0), (0, .ref (g 8)), (1, .int (nI i0))] dX4_edges_12 rfl (by decide) rfl ?_
    have L13 : ∀ d13 ax : Nat, ax + d13 = 3 → ∀ (b1 : Int32), b1 = hx_it (fun ax n => hy_eo bi i0 ax n) ax 0 → hsV Pg l En rX4_edges Ss Mi Ar Be Me Co QQ 7 D vwCl AA Ss.heap 0 0 13 [(3, .int (nI ax)), (2, .int b1), (0, .ref (g 8)), (1, .int (nI i0))] (hmW xa xb xc xd xe xf xg xh tl g cI bi wh se pi dn al tp bd) [] := by
      intro d13
      induction d13 with
      | zero =>
        intro ax kq13 b1 e_b1
        obtain rfl : ax = 3 := by omega
        refine hv_iload_n h dX4_edges_13 0 rfl rfl ?_
        refine hv_iconst h (nI 3) dX4_edges_14 (by decide) ?_
        refine hv_icmp_ge h 95 dX4_edges_15 rfl (fun c15 => ?_) (fun hc => absurd (Int32.le_refl _) hc)
        refine hv_iload_n h dX4_edges_95 1 rfl rfl ?_
        exact hv_iret h hr hlk hQ dX4_edges_96 ⟨(by rw [e_b1]; simp [hc_if, hy_egs, c4, hcli0]), rfl⟩
      | succ d13 ih13 =>
        intro ax kq13 b1 e_b1
        have hlt13 : ax < 3 := by omega
        refine hv_iload_n h dX4_edges_13 0 rfl rfl ?_
        refine hv_iconst h (nI 3) dX4_edges_14 (by decide) ?_
        refine hv_icmp_ge h 95 dX4_edges_15 rfl (fun hc => absurd hc (nI_ge hlt13 (by decide))) (fun c15 => ?_)
        refine hv_iconst h (nI 0) dX4_edges_18 (by decide) ?_
        refine hv_istore h [(4, .int (nI 0)), (3, .int (nI ax)), (2, .int b1), (0, .ref (g 8)), (1, .int (nI i0))] dX4_edges_19 (by decide) rfl ?_
        have L21 : ∀ d21 o : Nat, o + d21 = 12 → ∀ (b2 : Int32), b2 = hx_it (fun o n => hy_eu bi i0 ax o n) o b1 → hsV Pg l En rX4_edges Ss Mi Ar Be Me Co QQ 7 D vwCl AA Ss.heap 0 0 21 [(4, .int (nI o)), (3, .int (nI ax)), (2, .int b2), (0, .ref (g 8)), (1, .int (nI i0))] (hmW xa xb xc xd xe xf xg xh tl g cI bi wh se pi dn al tp bd) [] := by
          intro d21
          induction d21 with
          | zero =>
            intro o kq21 b2 e_b2
            obtain rfl : o = 12 := by omega
            refine hv_iload h dX4_edges_21 0 rfl ?_
            refine hv_bipush h (nI 12) dX4_edges_23 (by decide) ?_
            refine hv_icmp_ge h 89 dX4_edges_25 rfl (fun c25 => ?_) (fun hc => absurd (Int32.le_refl _) hc)
            refine hv_iinc h (nI (ax + 1)) [(3, .int (nI (ax + 1))), (4, .int (nI 12)), (2, .int b2), (0, .ref (g 8)), (1, .int (nI i0))] dX4_edges_89 1 rfl (hs_inc _) (by decide) rfl ?_
            refine hv_goto h 13 dX4_edges_92 rfl ?_
            refine hs_pick (lv' := [(3, .int (nI (ax + 1))), (2, .int b2), (0, .ref (g 8)), (1, .int (nI i0))]) [0, 2, 3, 4] rfl ?_
            exact ih13 (ax + 1) (by omega) _ (by rw [hx_it_s, ← e_b1]; exact e_b2)
          | succ d21 ih21 =>
            intro o kq21 b2 e_b2
            have hlt21 : o < 12 := by omega
            refine hv_iload h dX4_edges_21 0 rfl ?_
            refine hv_bipush h (nI 12) dX4_edges_23 (by decide) ?_
            refine hv_icmp_ge h 89 dX4_edges_25 rfl (fun hc => absurd hc (nI_ge hlt21 (by decide))) (fun c25 => ?_)
            refine hv_iconst h (nI 0) dX4_edges_28 (by decide) ?_
            refine hv_istore h [(5, .int (nI 0)), (4, .int (nI o)), (3, .int (nI ax)), (2, .int b2), (0, .ref (g 8)), (1, .int (nI i0))] dX4_edges_29 (by decide) rfl ?_
            have L31 : ∀ d31 u : Nat, u + d31 = 13 → ∀ (b3 : Int32), b3 = hx_it (fun u n => hy_ev bi i0 ax o u n) u b2 → hsV Pg l En rX4_edges Ss Mi Ar Be Me Co QQ 7 D vwCl AA Ss.heap 0 0 31 [(5, .int (nI u)), (4, .int (nI o)), (3, .int (nI ax)), (2, .int b3), (0, .ref (g 8)), (1, .int (nI i0))] (hmW xa xb xc xd xe xf xg xh tl g cI bi wh se pi dn al tp bd) [] := by
              intro d31
              induction d31 with
              | zero =>
                intro u kq31 b3 e_b3
                obtain rfl : u = 13 := by omega
                refine hv_iload h dX4_edges_31 0 rfl ?_
                refine hv_bipush h (nI 13) dX4_edges_33 (by decide) ?_
                refine hv_icmp_ge h 83 dX4_edges_35 rfl (fun c35 => ?_) (fun hc => absurd (Int32.le_refl _) hc)
                refine hv_iinc h (nI (o + 1)) [(4, .int (nI (o + 1))), (5, .int (nI 13)), (3, .int (nI ax)), (2, .int b3), (0, .ref (g 8)), (1, .int (nI i0))] dX4_edges_83 1 rfl (hs_inc _) (by decide) rfl ?_
                refine hv_goto h 21 dX4_edges_86 rfl ?_
                refine hs_pick (lv' := [(4, .int (nI (o + 1))), (3, .int (nI ax)), (2, .int b3), (0, .ref (g 8)), (1, .int (nI i0))]) [0, 2, 3, 4, 5] rfl ?_
                exact ih21 (o + 1) (by omega) _ (by rw [hx_it_s, ← e_b2]; exact e_b3)
              | succ d31 ih31 =>
                intro u kq31 b3 e_b3
                have hlt31 : u < 13 := by omega
                refine hv_iload h dX4_edges_31 0 rfl ?_
                refine hv_bipush h (nI 13) dX4_edges_33 (by decide) ?_
                refine hv_icmp_ge h 83 dX4_edges_35 rfl (fun hc => absurd hc (nI_ge hlt31 (by decide))) (fun c35 => ?_)
                refine hv_iconst h (nI 0) dX4_edges_38 (by decide) ?_
                refine hv_istore h [(6, .int (nI 0)), (5, .int (nI u)), (4, .int (nI o)), (3, .int (nI ax)), (2, .int b3), (0, .ref (g 8)), (1, .int (nI i0))] dX4_edges_39 (by decide) rfl ?_
                have L41 : ∀ d41 v : Nat, v + d41 = 13 → ∀ (b4 : Int32), b4 = hx_it (fun v n => n + hx_s (hy_ed bi i0 (nI ax) (nI o) (nI u) (nI v)) 1 0) v b3 → hsV Pg l En rX4_edges Ss Mi Ar Be Me Co QQ 7 D vwCl AA Ss.heap 0 0 41 [(6, .int (nI v)), (5, .int (nI u)), (4, .int (nI o)), (3, .int (nI ax)), (2, .int b4), (0, .ref (g 8)), (1, .int (nI i0))] (hmW xa xb xc xd xe xf xg xh tl g cI bi wh se pi dn al tp bd) [] := by
                  intro d41
                  induction d41 with
                  | zero =>
                    intro v kq41 b4 e_b4
                    obtain rfl : v = 13 := by omega
                    refine hv_iload h dX4_edges_41 0 rfl ?_
                    refine hv_bipush h (nI 13) dX4_edges_43 (by decide) ?_
                    refine hv_icmp_ge h 77 dX4_edges_45 rfl (fun c45 => ?_) (fun hc => absurd (Int32.le_refl _) hc)
                    refine hv_iinc h (nI (u + 1)) [(5, .int (nI (u + 1))), (6, .int (nI 13)), (4, .int (nI o)), (3, .int (nI ax)), (2, .int b4), (0, .ref (g 8)), (1, .int (nI i0))] dX4_edges_77 1 rfl (hs_inc _) (by decide) rfl ?_
                    refine hv_goto h 31 dX4_edges_80 rfl ?_
                    refine hs_pick (lv' := [(5, .int (nI (u + 1))), (4, .int (nI o)), (3, .int (nI ax)), (2, .int b4), (0, .ref (g 8)), (1, .int (nI i0))]) [0, 2, 3, 4, 5, 6] rfl ?_
                    exact ih31 (u + 1) (by omega) _ (by rw [hx_it_s, ← e_b3]; exact e_b4)
                  | succ d41 ih41 =>
                    intro v kq41 b4 e_b4
                    have hlt41 : v < 13 := by omega
                    refine hv_iload h dX4_edges_41 0 rfl ?_
                    refine hv_bipush h (nI 13) dX4_edges_43 (by decide) ?_
                    refine hv_icmp_ge h 77 dX4_edges_45 rfl (fun hc => absurd hc (nI_ge hlt41 (by decide))) (fun c45 => ?_)
                    refine hv_iload_n h dX4_edges_48 4 rfl rfl ?_
                    refine hv_aload_n h dX4_edges_49 5 rfl rfl ?_
                    refine hv_iload_n h dX4_edges_50 6 rfl rfl ?_
                    refine hv_iload_n h dX4_edges_51 3 rfl rfl ?_
                    refine hv_iload h dX4_edges_52 2 rfl ?_
                    refine hv_iload h dX4_edges_54 1 rfl ?_
                    refine hv_iload h dX4_edges_56 0 rfl ?_
                    refine hv_callp (ws' := (hmW xa xb xc xd xe xf xg xh tl g cI bi wh se pi dn al tp bd)) (v := hx_b (hy_ed bi i0 (nI ax) (nI o) (nI u) (nI v))) h (hr_Vi (n := 5) (rest := [.int b4]) h 8 rfl rfl (k_X4_isEdge l D cI cC xa xb xc xd xe xf xg xh tl g bi wh se pi dn al tp bd i0 (nI ax) (nI o) (nI u) (nI v) (by omega)) w_methodLink_X4_70 w_instanceMethod_X4_isEdge w_selects_X4_isEdge w_initialized_X4 w_code_X4_isEdge (by decide +kernel) rfl rfl rfl ⟨by decide, by decide⟩ rfl (Nat.le_of_ble_eq_true rfl) ⟨Nat.zero_le _, Nat.zero_le _⟩ dX4_edges_58) ?_
                    refine hv_sel h 1 0 dX4_edges_61 rfl dX4_edges_64 (by decide) dX4_edges_65 rfl dX4_edges_68 (by decide) ?_
                    refine hv_iadd h dX4_edges_69 ?_
                    refine hv_istore_n h [(2, .int (b4 + (hx_s (hy_ed bi i0 (nI ax) (nI o) (nI u) (nI v)) 1 0))), (6, .int (nI v)), (5, .int (nI u)), (4, .int (nI o)), (3, .int (nI ax)), (0, .ref (g 8)), (1, .int (nI i0))] dX4_edges_70 rfl (by decide) rfl ?_
                    refine hv_iinc h (nI (v + 1)) [(6, .int (nI (v + 1))), (2, .int (b4 + (hx_s (hy_ed bi i0 (nI ax) (nI o) (nI u) (nI v)) 1 0))), (5, .int (nI u)), (4, .int (nI o)), (3, .int (nI ax)), (0, .ref (g 8)), (1, .int (nI i0))] dX4_edges_71 1 rfl (hs_inc _) (by decide) rfl ?_
                    refine hv_goto h 41 dX4_edges_74 rfl ?_
                    refine hs_pick (lv' := [(6, .int (nI (v + 1))), (5, .int (nI u)), (4, .int (nI o)), (3, .int (nI ax)), (2, .int (b4 + (hx_s (hy_ed bi i0 (nI ax) (nI o) (nI u) (nI v)) 1 0))), (0, .ref (g 8)), (1, .int (nI i0))]) [0, 2, 3, 4, 1, 5, 6] rfl ?_
                    exact ih41 (v + 1) (by omega) _ (by rw [hx_it_s, ← e_b4]; try first | assumption | with_reducible rfl | (simp [c4, hcli0, c15, c25, c35, c45]; done))
                exact L41 13 0 (by omega) _ rfl
            exact L31 13 0 (by omega) _ rfl
        exact L21 12 0 (by omega) _ rfl
    exact L13 3 0 (by omega) _ rfl
  · refine hv_iconst h ((-1)) dX4_edges_7 (by decide) ?_
    exact hv_iret h hr hlk hQ dX4_edges_8 ⟨(by simp [hc_if, c4]), rfl⟩
abbrev rX4_moment : Room := { frames := 4, cells := 0, slots := 0, locals := 95 }
set_option maxHeartbeats 1000000 in
set_option maxRecDepth 100000 in
theorem k_X4_moment (l : Launch) (D : va_G) (cI cC : ClassId) (xa xb xc xd xe xf xg xh : Nat × va_E) (tl : va_W) (g : Nat → Nat) (bi wh se pi : Nat → Int32) (dn al tp bd : Int32) (s0 : Int32) (ax : Int32)  : hsI l yX4_moment wsX4_moment rX4_moment D vwCl (hsT cI cC) [.ref (g 8), .int s0, .int ax] (hmW xa xb xc xd xe xf xg xh tl g cI bi wh se pi dn al tp bd) (fun r w => r = hc_if (hx_in s0 6 && hx_in ax 3) (-1) (hy_mom bi s0.toNatClampNeg ax) ∧ w = (hmW xa xb xc xd xe xf xg xh tl g cI bi wh se pi dn al tp bd)) := by
  refine hsI.enter (cc := cX4_moment) (maxL := 5) (ret := (some .int)) (by decide) rfl (Nat.le_of_ble_eq_true rfl) ?_
  intro Pg En Ss Mi Ar Be Me Co AA QQ hQ h hr hlk
  refine hs_lv (lv' := [(0, .ref (g 8)), (1, .int s0), (2, .int ax)]) rfl ?_
  refine hv_iload_n h dX4_moment_0 1 rfl rfl ?_
  refine hv_callp (ws' := (hmW xa xb xc xd xe xf xg xh tl g cI bi wh se pi dn al tp bd)) (v := hx_b (hx_in s0 6)) h (hr_Si (n := 1) (rest := []) h (k_X4_isSolid l D cI cC (hmW xa xb xc xd xe xf xg xh tl g cI bi wh se pi dn al tp bd) s0) w_methodLink_X4_45 w_static_X4_isSolid w_initialized_X4 w_code_X4_isSolid (by decide +kernel) rfl rfl rfl ⟨by decide, by decide⟩ rfl (Nat.le_of_ble_eq_true rfl) ⟨Nat.zero_le _, Nat.zero_le _⟩ dX4_moment_1) ?_
  refine hv_bif_eq h 14 dX4_moment_4 rfl (fun c4 => ?_) (fun c4 => ?_)
  · refine hv_iconst h ((-1)) dX4_moment_14 (by decide) ?_
    exact hv_iret h hr hlk hQ dX4_moment_15 ⟨(by simp [hc_if, c4]), rfl⟩
  · refine hv_iload_n h dX4_moment_7 2 rfl rfl ?_
    refine hv_callp (ws' := (hmW xa xb xc xd xe xf xg xh tl g cI bi wh se pi dn al tp bd)) (v := hx_b (hx_in ax 3)) h (hr_Si (n := 1) (rest := []) h (k_X4_isAxis l D cI cC (hmW xa xb xc xd xe xf xg xh tl g cI bi wh se pi dn al tp bd) ax) w_methodLink_X4_59 w_static_X4_isAxis w_initialized_X4 w_code_X4_isAxis (by decide +kernel) rfl rfl rfl ⟨by decide, by decide⟩ rfl (Nat.le_of_ble_eq_true rfl) ⟨Nat.zero_le _, Nat.zero_le _⟩ dX4_moment_8) ?_
    refine hv_bif_ne h 16 dX4_moment_11 rfl (fun c11 => ?_) (fun c11 => ?_)
    · obtain ⟨i0, hi0, rfl⟩ := hx_in_nat (n := 6) (by decide) c4
      have hcli0 : (nI i0).toNatClampNeg = i0 := nI_clamp (by omega)
      refine hv_iconst h (0) dX4_moment_16 (by decide) ?_
      refine hv_istore_n h [(3, .int 0), (0, .ref (g 8)), (1, .int (nI i0)), (2, .int ax)] dX4_moment_17 rfl (by decide) rfl ?_
      refine hv_iconst h (nI 0) dX4_moment_18 (by decide) ?_
      refine hv_istore h [(4, .int (nI 0)), (3, .int 0), (0, .ref (g 8)), (1, .int (nI i0)), (2, .int ax)] dX4_moment_19 (by decide) rfl ?_
      have L21 : ∀ d21 k : Nat, k + d21 = 12 → ∀ (b3 : Int32), b3 = hx_it (fun k n => n + (nI (2 * k + 1)) * hy_at bi i0 ax (nI k)) k 0 → hsV Pg l En rX4_moment Ss Mi Ar Be Me Co QQ 5 D vwCl AA Ss.heap 0 0 21 [(4, .int (nI k)), (3, .int b3), (0, .ref (g 8)), (1, .int (nI i0)), (2, .int ax)] (hmW xa xb xc xd xe xf xg xh tl g cI bi wh se pi dn al tp bd) [] := by
        intro d21
        induction d21 with
        | zero =>
          intro k kq21 b3 e_b3
          obtain rfl : k = 12 := by omega
          refine hv_iload h dX4_moment_21 0 rfl ?_
          refine hv_bipush h (nI 12) dX4_moment_23 (by decide) ?_
          refine hv_icmp_ge h 52 dX4_moment_25 rfl (fun c25 => ?_) (fun hc => absurd (Int32.le_refl _) hc)
          refine hv_iload_n h dX4_moment_52 1 rfl rfl ?_
          exact hv_iret h hr hlk hQ dX4_moment_53 ⟨(by rw [e_b3]; simp [hc_if, hy_mom, c4, c11, hcli0]), rfl⟩
        | succ d21 ih21 =>
          intro k kq21 b3 e_b3
          have hlt21 : k < 12 := by omega
          refine hv_iload h dX4_moment_21 0 rfl ?_
          refine hv_bipush h (nI 12) dX4_moment_23 (by decide) ?_
          refine hv_icmp_ge h 52 dX4_moment_25 rfl (fun hc => absurd hc (nI_ge hlt21 (by decide))) (fun c25 => ?_)
          refine hv_iload_n h dX4_moment_28 1 rfl rfl ?_
          refine hv_iconst h (2) dX4_moment_29 (by decide) ?_
          refine hv_iload h dX4_moment_30 0 rfl ?_
          refine hw_imul h (nI (2 * k)) dX4_moment_32 (pk_mul 2 k) ?_
          refine hv_iconst h (1) dX4_moment_33 (by decide) ?_
          refine hw_iadd h (nI ((2 * k) + 1)) dX4_moment_34 (nI_add (2 * k) 1) ?_
          refine hv_aload_n h dX4_moment_35 2 rfl rfl ?_
          refine hv_iload_n h dX4_moment_36 3 rfl rfl ?_
          refine hv_iload_n h dX4_moment_37 4 rfl rfl ?_
          refine hv_iload h dX4_moment_38 0 rfl ?_
          refine hv_callp (ws' := (hmW xa xb xc xd xe xf xg xh tl g cI bi wh se pi dn al tp bd)) (v := hy_at bi i0 ax (nI k)) h (hr_Vi (n := 3) (rest := [.int (nI ((2 * k) + 1)), .int b3]) h 8 rfl rfl (k_X4_countAt l D cI cC xa xb xc xd xe xf xg xh tl g bi wh se pi dn al tp bd i0 ax (nI k) (by omega)) w_methodLink_X4_95 w_instanceMethod_X4_countAt w_selects_X4_countAt w_initialized_X4 w_code_X4_countAt (by decide +kernel) rfl rfl rfl ⟨by decide, by decide⟩ rfl (Nat.le_of_ble_eq_true rfl) ⟨Nat.zero_le _, Nat.zero_le _⟩ dX4_moment_40) ?_
          refine hv_imul h dX4_moment_43 ?_
          refine hv_iadd h dX4_moment_44 ?_
          refine hv_istore_n h [(3, .int (b3 + ((nI ((2 * k) + 1)) * (hy_at bi i0 ax (nI k))))), (4, .int (nI k)), (0, .ref (g 8)), (1, .int (nI i0)), (2, .int ax)] dX4_moment_45 rfl (by decide) rfl ?_
          refine hv_iinc h (nI (k + 1)) [(4, .int (nI (k + 1))), (3, .int (b3 + ((nI ((2 * k) + 1)) * (hy_at bi i0 ax (nI k))))), (0, .ref (g 8)), (1, .int (nI i0)), (2, .int ax)] dX4_moment_46 1 rfl (hs_inc _) (by decide) rfl ?_
          refine hv_goto h 21 dX4_moment_49 rfl ?_
          exact ih21 (k + 1) (by omega) _ (by rw [hx_it_s, ← e_b3]; try first | assumption | with_reducible rfl | (simp [c4, c11, hcli0, c25]; done))
      exact L21 12 0 (by omega) _ rfl
    · refine hv_iconst h ((-1)) dX4_moment_14 (by decide) ?_
      exact hv_iret h hr hlk hQ dX4_moment_15 ⟨(by simp [hc_if, c4, c11]), rfl⟩
abbrev rX4_extent : Room := { frames := 4, cells := 0, slots := 0, locals := 95 }
set_option maxHeartbeats 1000000 in
set_option maxRecDepth 100000 in
theorem k_X4_extent (l : Launch) (D : va_G) (cI cC : ClassId) (xa xb xc xd xe xf xg xh : Nat × va_E) (tl : va_W) (g : Nat → Nat) (bi wh se pi : Nat → Int32) (dn al tp bd : Int32) (s0 : Int32) (ax : Int32) (e0 : Int32)  : hsI l yX4_extent wsX4_extent rX4_extent D vwCl (hsT cI cC) [.ref (g 8), .int s0, .int ax, .int e0] (hmW xa xb xc xd xe xf xg xh tl g cI bi wh se pi dn al tp bd) (fun r w => r = hc_if (hx_in s0 6 && (hx_in ax 3 && (!(decide (e0 < 0)) && decide (e0 ≤ 1)))) (-1) (if e0 = 0 then (hy_ex bi s0.toNatClampNeg ax).1 else (hy_ex bi s0.toNatClampNeg ax).2) ∧ w = (hmW xa xb xc xd xe xf xg xh tl g cI bi wh se pi dn al tp bd)) := by
  refine hsI.enter (cc := cX4_extent) (maxL := 7) (ret := (some .int)) (by decide) rfl (Nat.le_of_ble_eq_true rfl) ?_
  intro Pg En Ss Mi Ar Be Me Co AA QQ hQ h hr hlk
  refine hs_lv (lv' := [(0, .ref (g 8)), (1, .int s0), (2, .int ax), (3, .int e0)]) rfl ?_
  refine hv_iload_n h dX4_extent_0 1 rfl rfl ?_
  refine hv_callp (ws' := (hmW xa xb xc xd xe xf xg xh tl g cI bi wh se pi dn al tp bd)) (v := hx_b (hx_in s0 6)) h (hr_Si (n := 1) (rest := []) h (k_X4_isSolid l D cI cC (hmW xa xb xc xd xe xf xg xh tl g cI bi wh se pi dn al tp bd) s0) w_methodLink_X4_45 w_static_X4_isSolid w_initialized_X4 w_code_X4_isSolid (by decide +kernel) rfl rfl rfl ⟨by decide, by decide⟩ rfl (Nat.le_of_ble_eq_true rfl) ⟨Nat.zero_le _, Nat.zero_le _⟩ dX4_extent_1) ?_
  refine hv_bif_eq h 23 dX4_extent_4 rfl (fun c4 => ?_) (fun c4 => ?_)
  · refine hv_iconst h ((-1)) dX4_extent_23 (by decide) ?_
    exact hv_iret h hr hlk hQ dX4_extent_24 ⟨(by simp [hc_if, c4]), rfl⟩
  · refine hv_iload_n h dX4_extent_7 2 rfl rfl ?_
    refine hv_callp (ws' := (hmW xa xb xc xd xe xf xg xh tl g cI bi wh se pi dn al tp bd)) (v := hx_b (hx_in ax 3)) h (hr_Si (n := 1) (rest := []) h (k_X4_isAxis l D cI cC (hmW xa xb xc xd xe xf xg xh tl g cI bi wh se pi dn al tp bd) ax) w_methodLink_X4_59 w_static_X4_isAxis w_initialized_X4 w_code_X4_isAxis (by decide +kernel) rfl rfl rfl ⟨by decide, by decide⟩ rfl (Nat.le_of_ble_eq_true rfl) ⟨Nat.zero_le _, Nat.zero_le _⟩ dX4_extent_8) ?_
    refine hv_bif_eq h 23 dX4_extent_11 rfl (fun c11 => ?_) (fun c11 => ?_)
    · refine hv_iconst h ((-1)) dX4_extent_23 (by decide) ?_
      exact hv_iret h hr hlk hQ dX4_extent_24 ⟨(by simp [hc_if, c4, c11]), rfl⟩
    · refine hv_iload_n h dX4_extent_14 3 rfl rfl ?_
      refine hv_if_lt h 23 dX4_extent_15 rfl (fun c15 => ?_) (fun c15 => ?_)
      · refine hv_iconst h ((-1)) dX4_extent_23 (by decide) ?_
        exact hv_iret h hr hlk hQ dX4_extent_24 ⟨(by simp [hc_if, c4, c11, c15]), rfl⟩
      · refine hv_iload_n h dX4_extent_18 3 rfl rfl ?_
        refine hv_iconst h (1) dX4_extent_19 (by decide) ?_
        refine hv_icmp_le h 25 dX4_extent_20 rfl (fun c20 => ?_) (fun c20 => ?_)
        · obtain ⟨i0, hi0, rfl⟩ := hx_in_nat (n := 6) (by decide) c4
          have hcli0 : (nI i0).toNatClampNeg = i0 := nI_clamp (by omega)
          refine hv_bipush h (12) dX4_extent_25 (by decide) ?_
          refine hv_istore h [(4, .int 12), (0, .ref (g 8)), (1, .int (nI i0)), (2, .int ax), (3, .int e0)] dX4_extent_27 (by decide) rfl ?_
          refine hv_bipush h (12) dX4_extent_29 (by decide) ?_
          refine hv_istore h [(5, .int 12), (4, .int 12), (0, .ref (g 8)), (1, .int (nI i0)), (2, .int ax), (3, .int e0)] dX4_extent_31 (by decide) rfl ?_
          refine hv_iconst h (nI 0) dX4_extent_33 (by decide) ?_
          refine hv_istore h [(6, .int (nI 0)), (5, .int 12), (4, .int 12), (0, .ref (g 8)), (1, .int (nI i0)), (2, .int ax), (3, .int e0)] dX4_extent_34 (by decide) rfl ?_
          have L36 : ∀ d36 k : Nat, k + d36 = 12 → ∀ (Z : Int32 × Int32), Z = hx_it (fun k (Z : Int32 × Int32) => hy_ex1 (hy_at bi i0 ax (nI k)) (nI k) Z) k (12, 12) → hsV Pg l En rX4_extent Ss Mi Ar Be Me Co QQ 7 D vwCl AA Ss.heap 0 0 36 [(6, .int (nI k)), (5, .int Z.2), (4, .int Z.1), (0, .ref (g 8)), (1, .int (nI i0)), (2, .int ax), (3, .int e0)] (hmW xa xb xc xd xe xf xg xh tl g cI bi wh se pi dn al tp bd) [] := by
            intro d36
            induction d36 with
            | zero =>
              intro k kq36 Z e_Z
              obtain rfl : k = 12 := by omega
              refine hv_iload h dX4_extent_36 0 rfl ?_
              refine hv_bipush h (nI 12) dX4_extent_38 (by decide) ?_
              refine hv_icmp_ge h 80 dX4_extent_40 rfl (fun c40 => ?_) (fun hc => absurd (Int32.le_refl _) hc)
              refine hv_iload_n h dX4_extent_80 6 rfl rfl ?_
              refine hv_if_ne h 89 dX4_extent_81 rfl (fun c81 => ?_) (fun c81 => ?_)
              · refine hv_iload h dX4_extent_89 1 rfl ?_
                exact hv_iret h hr hlk hQ dX4_extent_91 ⟨(by rw [e_Z]; simp [hc_if, hy_ex, c4, c11, c15, c20, hcli0, c81]), rfl⟩
              · refine hv_iload h dX4_extent_84 2 rfl ?_
                refine hv_goto h 91 dX4_extent_86 rfl ?_
                exact hv_iret h hr hlk hQ dX4_extent_91 ⟨(by rw [e_Z]; simp [hc_if, hy_ex, c4, c11, c15, c20, hcli0, c81]), rfl⟩
            | succ d36 ih36 =>
              intro k kq36 Z e_Z
              have hlt36 : k < 12 := by omega
              refine hv_iload h dX4_extent_36 0 rfl ?_
              refine hv_bipush h (nI 12) dX4_extent_38 (by decide) ?_
              refine hv_icmp_ge h 80 dX4_extent_40 rfl (fun hc => absurd hc (nI_ge hlt36 (by decide))) (fun c40 => ?_)
              refine hv_aload_n h dX4_extent_43 3 rfl rfl ?_
              refine hv_iload_n h dX4_extent_44 4 rfl rfl ?_
              refine hv_iload_n h dX4_extent_45 5 rfl rfl ?_
              refine hv_iload h dX4_extent_46 0 rfl ?_
              refine hv_callp (ws' := (hmW xa xb xc xd xe xf xg xh tl g cI bi wh se pi dn al tp bd)) (v := hy_at bi i0 ax (nI k)) h (hr_Vi (n := 3) (rest := []) h 8 rfl rfl (k_X4_countAt l D cI cC xa xb xc xd xe xf xg xh tl g bi wh se pi dn al tp bd i0 ax (nI k) (by omega)) w_methodLink_X4_95 w_instanceMethod_X4_countAt w_selects_X4_countAt w_initialized_X4 w_code_X4_countAt (by decide +kernel) rfl rfl rfl ⟨by decide, by decide⟩ rfl (Nat.le_of_ble_eq_true rfl) ⟨Nat.zero_le _, Nat.zero_le _⟩ dX4_extent_48) ?_
              refine hv_if_le h 74 dX4_extent_51 rfl (fun c51 => ?_) (fun c51 => ?_)
              · refine hv_iinc h (nI (k + 1)) [(6, .int (nI (k + 1))), (5, .int Z.2), (4, .int Z.1), (0, .ref (g 8)), (1, .int (nI i0)), (2, .int ax), (3, .int e0)] dX4_extent_74 0 rfl (hs_inc _) (by decide) rfl ?_
                refine hv_goto h 36 dX4_extent_77 rfl ?_
                exact ih36 (k + 1) (by omega) (Z.1, Z.2) (by rw [hx_it_s, ← e_Z]; try first | assumption | with_reducible rfl | (simp [hy_ex1, c4, c11, c15, c20, hcli0, c40, c51]; done))
              · refine hv_iload h dX4_extent_54 2 rfl ?_
                refine hv_bipush h (12) dX4_extent_56 (by decide) ?_
                refine hv_icmp_ne h 66 dX4_extent_58 rfl (fun c58 => ?_) (fun c58 => ?_)
                · refine hv_iload h dX4_extent_66 2 rfl ?_
                  refine hv_istore h [(4, .int Z.1), (6, .int (nI k)), (5, .int Z.2), (0, .ref (g 8)), (1, .int (nI i0)), (2, .int ax), (3, .int e0)] dX4_extent_68 (by decide) rfl ?_
                  refine hv_iload h dX4_extent_70 1 rfl ?_
                  refine hv_istore h [(5, .int (nI k)), (4, .int Z.1), (6, .int (nI k)), (0, .ref (g 8)), (1, .int (nI i0)), (2, .int ax), (3, .int e0)] dX4_extent_72 (by decide) rfl ?_
                  refine hv_iinc h (nI (k + 1)) [(6, .int (nI (k + 1))), (5, .int (nI k)), (4, .int Z.1), (0, .ref (g 8)), (1, .int (nI i0)), (2, .int ax), (3, .int e0)] dX4_extent_74 2 rfl (hs_inc _) (by decide) rfl ?_
                  refine hv_goto h 36 dX4_extent_77 rfl ?_
                  exact ih36 (k + 1) (by omega) (Z.1, nI k) (by rw [hx_it_s, ← e_Z]; try first | assumption | with_reducible rfl | (simp [hy_ex1, c4, c11, c15, c20, hcli0, c40, c51, c58]; done))
                · refine hv_iload h dX4_extent_61 0 rfl ?_
                  refine hv_goto h 68 dX4_extent_63 rfl ?_
                  refine hv_istore h [(4, .int (nI k)), (6, .int (nI k)), (5, .int Z.2), (0, .ref (g 8)), (1, .int (nI i0)), (2, .int ax), (3, .int e0)] dX4_extent_68 (by decide) rfl ?_
                  refine hv_iload h dX4_extent_70 1 rfl ?_
                  refine hv_istore h [(5, .int (nI k)), (4, .int (nI k)), (6, .int (nI k)), (0, .ref (g 8)), (1, .int (nI i0)), (2, .int ax), (3, .int e0)] dX4_extent_72 (by decide) rfl ?_
                  refine hv_iinc h (nI (k + 1)) [(6, .int (nI (k + 1))), (5, .int (nI k)), (4, .int (nI k)), (0, .ref (g 8)), (1, .int (nI i0)), (2, .int ax), (3, .int e0)] dX4_extent_74 2 rfl (hs_inc _) (by decide) rfl ?_
                  refine hv_goto h 36 dX4_extent_77 rfl ?_
                  exact ih36 (k + 1) (by omega) (nI k, nI k) (by rw [hx_it_s, ← e_Z]; try first | assumption | with_reducible rfl | (simp [hy_ex1, c4, c11, c15, c20, hcli0, c40, c51, c58]; done))
          exact L36 12 0 (by omega) (12, 12) rfl
        · refine hv_iconst h ((-1)) dX4_extent_23 (by decide) ?_
          exact hv_iret h hr hlk hQ dX4_extent_24 ⟨(by simp [hc_if, c4, c11, c15, c20]), rfl⟩
abbrev rX4_section : Room := { frames := 4, cells := 0, slots := 0, locals := 95 }
set_option maxHeartbeats 1000000 in
set_option maxRecDepth 100000 in
theorem k_X4_section (l : Launch) (D : va_G) (cI cC : ClassId) (xa xb xc xd xe xf xg xh : Nat × va_E) (tl : va_W) (g : Nat → Nat) (bi wh se pi : Nat → Int32) (dn al tp bd : Int32) (s0 : Int32) (ax : Int32) (w0 : Int32)  : hsI l yX4_section wsX4_section rX4_section D vwCl (hsT cI cC) [.ref (g 8), .int s0, .int ax, .int w0] (hmW xa xb xc xd xe xf xg xh tl g cI bi wh se pi dn al tp bd) (fun r w => r = hc_if (hx_in s0 6 && (hx_in ax 3 && hx_in w0 12)) (-1) (hy_at bi s0.toNatClampNeg ax w0) ∧ w = (hmW xa xb xc xd xe xf xg xh tl g cI bi wh se pi dn al tp bd)) := by
  refine hsI.enter (cc := cX4_section) (maxL := 4) (ret := (some .int)) (by decide) rfl (Nat.le_of_ble_eq_true rfl) ?_
  intro Pg En Ss Mi Ar Be Me Co AA QQ hQ h hr hlk
  refine hs_lv (lv' := [(0, .ref (g 8)), (1, .int s0), (2, .int ax), (3, .int w0)]) rfl ?_
  refine hv_iload_n h dX4_section_0 1 rfl rfl ?_
  refine hv_callp (ws' := (hmW xa xb xc xd xe xf xg xh tl g cI bi wh se pi dn al tp bd)) (v := hx_b (hx_in s0 6)) h (hr_Si (n := 1) (rest := []) h (k_X4_isSolid l D cI cC (hmW xa xb xc xd xe xf xg xh tl g cI bi wh se pi dn al tp bd) s0) w_methodLink_X4_45 w_static_X4_isSolid w_initialized_X4 w_code_X4_isSolid (by decide +kernel) rfl rfl rfl ⟨by decide, by decide⟩ rfl (Nat.le_of_ble_eq_true rfl) ⟨Nat.zero_le _, Nat.zero_le _⟩ dX4_section_1) ?_
  refine hv_bif_eq h 33 dX4_section_4 rfl (fun c4 => ?_) (fun c4 => ?_)
  · refine hv_iconst h ((-1)) dX4_section_33 (by decide) ?_
    exact hv_iret h hr hlk hQ dX4_section_34 ⟨(by simp [hc_if, c4]), rfl⟩
  · refine hv_iload_n h dX4_section_7 2 rfl rfl ?_
    refine hv_callp (ws' := (hmW xa xb xc xd xe xf xg xh tl g cI bi wh se pi dn al tp bd)) (v := hx_b (hx_in ax 3)) h (hr_Si (n := 1) (rest := []) h (k_X4_isAxis l D cI cC (hmW xa xb xc xd xe xf xg xh tl g cI bi wh se pi dn al tp bd) ax) w_methodLink_X4_59 w_static_X4_isAxis w_initialized_X4 w_code_X4_isAxis (by decide +kernel) rfl rfl rfl ⟨by decide, by decide⟩ rfl (Nat.le_of_ble_eq_true rfl) ⟨Nat.zero_le _, Nat.zero_le _⟩ dX4_section_8) ?_
    refine hv_bif_eq h 33 dX4_section_11 rfl (fun c11 => ?_) (fun c11 => ?_)
    · refine hv_iconst h ((-1)) dX4_section_33 (by decide) ?_
      exact hv_iret h hr hlk hQ dX4_section_34 ⟨(by simp [hc_if, c4, c11]), rfl⟩
    · refine hv_iload_n h dX4_section_14 3 rfl rfl ?_
      refine hv_bipush h (12) dX4_section_15 (by decide) ?_
      refine hv_callp (ws' := (hmW xa xb xc xd xe xf xg xh tl g cI bi wh se pi dn al tp bd)) (v := hx_b (hx_in w0 12)) h (hr_Si (n := 2) (rest := []) h (k_X4_isIn l D cI cC (hmW xa xb xc xd xe xf xg xh tl g cI bi wh se pi dn al tp bd) w0 12) w_methodLink_X4_22 w_static_X4_isIn w_initialized_X4 w_code_X4_isIn (by decide +kernel) rfl rfl rfl ⟨by decide, by decide⟩ rfl (Nat.le_of_ble_eq_true rfl) ⟨Nat.zero_le _, Nat.zero_le _⟩ dX4_section_17) ?_
      refine hv_bif_eq h 33 dX4_section_20 rfl (fun c20 => ?_) (fun c20 => ?_)
      · refine hv_iconst h ((-1)) dX4_section_33 (by decide) ?_
        exact hv_iret h hr hlk hQ dX4_section_34 ⟨(by simp [hc_if, c4, c11, c20]), rfl⟩
      · obtain ⟨i0, hi0, rfl⟩ := hx_in_nat (n := 6) (by decide) c4
        have hcli0 : (nI i0).toNatClampNeg = i0 := nI_clamp (by omega)
        refine hv_aload_n h dX4_section_23 0 rfl rfl ?_
        refine hv_iload_n h dX4_section_24 1 rfl rfl ?_
        refine hv_iload_n h dX4_section_25 2 rfl rfl ?_
        refine hv_iload_n h dX4_section_26 3 rfl rfl ?_
        refine hv_callp (ws' := (hmW xa xb xc xd xe xf xg xh tl g cI bi wh se pi dn al tp bd)) (v := hy_at bi i0 ax w0) h (hr_Vi (n := 3) (rest := []) h 8 rfl rfl (k_X4_countAt l D cI cC xa xb xc xd xe xf xg xh tl g bi wh se pi dn al tp bd i0 ax w0 (by omega)) w_methodLink_X4_95 w_instanceMethod_X4_countAt w_selects_X4_countAt w_initialized_X4 w_code_X4_countAt (by decide +kernel) rfl rfl rfl ⟨by decide, by decide⟩ rfl (Nat.le_of_ble_eq_true rfl) ⟨Nat.zero_le _, Nat.zero_le _⟩ dX4_section_27) ?_
        refine hv_goto h 34 dX4_section_30 rfl ?_
        exact hv_iret h hr hlk hQ dX4_section_34 ⟨(by simp [hc_if, c4, c11, c20, hcli0]), rfl⟩
abbrev rX4_depth : Room := { frames := 4, cells := 0, slots := 0, locals := 96 }
set_option maxHeartbeats 1000000 in
set_option maxRecDepth 100000 in
theorem k_X4_depth (l : Launch) (D : va_G) (cI cC : ClassId) (xa xb xc xd xe xf xg xh : Nat × va_E) (tl : va_W) (g : Nat → Nat) (bi wh se pi : Nat → Int32) (dn al tp bd : Int32) (s0 : Int32) (ax : Int32) (b0 : Int32) (u0 : Int32) (v0 : Int32)  : hsI l yX4_depth wsX4_depth rX4_depth D vwCl (hsT cI cC) [.ref (g 8), .int s0, .int ax, .int b0, .int u0, .int v0] (hmW xa xb xc xd xe xf xg xh tl g cI bi wh se pi dn al tp bd) (fun r w => r = hc_if (hx_in s0 6 && (hx_in ax 3 && (hx_in u0 12 && hx_in v0 12))) (-1) (hy_dep bi s0.toNatClampNeg ax b0 u0 v0) ∧ w = (hmW xa xb xc xd xe xf xg xh tl g cI bi wh se pi dn al tp bd)) := by
  refine hsI.enter (cc := cX4_depth) (maxL := 6) (ret := (some .int)) (by decide) rfl (Nat.le_of_ble_eq_true rfl) ?_
  intro Pg En Ss Mi Ar Be Me Co AA QQ hQ h hr hlk
  refine hs_lv (lv' := [(0, .ref (g 8)), (1, .int s0), (2, .int ax), (3, .int b0), (4, .int u0), (5, .int v0)]) rfl ?_
  refine hv_iload_n h dX4_depth_0 1 rfl rfl ?_
  refine hv_callp (ws' := (hmW xa xb xc xd xe xf xg xh tl g cI bi wh se pi dn al tp bd)) (v := hx_b (hx_in s0 6)) h (hr_Si (n := 1) (rest := []) h (k_X4_isSolid l D cI cC (hmW xa xb xc xd xe xf xg xh tl g cI bi wh se pi dn al tp bd) s0) w_methodLink_X4_45 w_static_X4_isSolid w_initialized_X4 w_code_X4_isSolid (by decide +kernel) rfl rfl rfl ⟨by decide, by decide⟩ rfl (Nat.le_of_ble_eq_true rfl) ⟨Nat.zero_le _, Nat.zero_le _⟩ dX4_depth_1) ?_
  refine hv_bif_eq h 48 dX4_depth_4 rfl (fun c4 => ?_) (fun c4 => ?_)
  · refine hv_iconst h ((-1)) dX4_depth_48 (by decide) ?_
    exact hv_iret h hr hlk hQ dX4_depth_49 ⟨(by simp [hc_if, c4]), rfl⟩
  · refine hv_iload_n h dX4_depth_7 2 rfl rfl ?_
    refine hv_callp (ws' := (hmW xa xb xc xd xe xf xg xh tl g cI bi wh se pi dn al tp bd)) (v := hx_b (hx_in ax 3)) h (hr_Si (n := 1) (rest := []) h (k_X4_isAxis l D cI cC (hmW xa xb xc xd xe xf xg xh tl g cI bi wh se pi dn al tp bd) ax) w_methodLink_X4_59 w_static_X4_isAxis w_initialized_X4 w_code_X4_isAxis (by decide +kernel) rfl rfl rfl ⟨by decide, by decide⟩ rfl (Nat.le_of_ble_eq_true rfl) ⟨Nat.zero_le _, Nat.zero_le _⟩ dX4_depth_8) ?_
    refine hv_bif_eq h 48 dX4_depth_11 rfl (fun c11 => ?_) (fun c11 => ?_)
    · refine hv_iconst h ((-1)) dX4_depth_48 (by decide) ?_
      exact hv_iret h hr hlk hQ dX4_depth_49 ⟨(by simp [hc_if, c4, c11]), rfl⟩
    · refine hv_iload h dX4_depth_14 4 rfl ?_
      refine hv_bipush h (12) dX4_depth_16 (by decide) ?_
      refine hv_callp (ws' := (hmW xa xb xc xd xe xf xg xh tl g cI bi wh se pi dn al tp bd)) (v := hx_b (hx_in u0 12)) h (hr_Si (n := 2) (rest := []) h (k_X4_isIn l D cI cC (hmW xa xb xc xd xe xf xg xh tl g cI bi wh se pi dn al tp bd) u0 12) w_methodLink_X4_22 w_static_X4_isIn w_initialized_X4 w_code_X4_isIn (by decide +kernel) rfl rfl rfl ⟨by decide, by decide⟩ rfl (Nat.le_of_ble_eq_true rfl) ⟨Nat.zero_le _, Nat.zero_le _⟩ dX4_depth_18) ?_
      refine hv_bif_eq h 48 dX4_depth_21 rfl (fun c21 => ?_) (fun c21 => ?_)
      · refine hv_iconst h ((-1)) dX4_depth_48 (by decide) ?_
        exact hv_iret h hr hlk hQ dX4_depth_49 ⟨(by simp [hc_if, c4, c11, c21]), rfl⟩
      · refine hv_iload h dX4_depth_24 5 rfl ?_
        refine hv_bipush h (12) dX4_depth_26 (by decide) ?_
        refine hv_callp (ws' := (hmW xa xb xc xd xe xf xg xh tl g cI bi wh se pi dn al tp bd)) (v := hx_b (hx_in v0 12)) h (hr_Si (n := 2) (rest := []) h (k_X4_isIn l D cI cC (hmW xa xb xc xd xe xf xg xh tl g cI bi wh se pi dn al tp bd) v0 12) w_methodLink_X4_22 w_static_X4_isIn w_initialized_X4 w_code_X4_isIn (by decide +kernel) rfl rfl rfl ⟨by decide, by decide⟩ rfl (Nat.le_of_ble_eq_true rfl) ⟨Nat.zero_le _, Nat.zero_le _⟩ dX4_depth_28) ?_
        refine hv_bif_eq h 48 dX4_depth_31 rfl (fun c31 => ?_) (fun c31 => ?_)
        · refine hv_iconst h ((-1)) dX4_depth_48 (by decide) ?_
          exact hv_iret h hr hlk hQ dX4_depth_49 ⟨(by simp [hc_if, c4, c11, c21, c31]), rfl⟩
        · obtain ⟨i0, hi0, rfl⟩ := hx_in_nat (n := 6) (by decide) c4
          have hcli0 : (nI i0).toNatClampNeg = i0 := nI_clamp (by omega)
          refine hv_aload_n h dX4_depth_34 0 rfl rfl ?_
          refine hv_iload_n h dX4_depth_35 1 rfl rfl ?_
          refine hv_iload_n h dX4_depth_36 2 rfl rfl ?_
          refine hv_iload_n h dX4_depth_37 3 rfl rfl ?_
          refine hv_iload h dX4_depth_38 4 rfl ?_
          refine hv_iload h dX4_depth_40 5 rfl ?_
          refine hv_callp (ws' := (hmW xa xb xc xd xe xf xg xh tl g cI bi wh se pi dn al tp bd)) (v := hy_dep bi i0 ax b0 u0 v0) h (hr_Vi (n := 5) (rest := []) h 8 rfl rfl (k_X4_depthOf l D cI cC xa xb xc xd xe xf xg xh tl g bi wh se pi dn al tp bd i0 ax b0 u0 v0 (by omega)) w_methodLink_X4_99 w_instanceMethod_X4_depthOf w_selects_X4_depthOf w_initialized_X4 w_code_X4_depthOf (by decide +kernel) rfl rfl rfl ⟨by decide, by decide⟩ rfl (Nat.le_of_ble_eq_true rfl) ⟨Nat.zero_le _, Nat.zero_le _⟩ dX4_depth_42) ?_
          refine hv_goto h 49 dX4_depth_45 rfl ?_
          exact hv_iret h hr hlk hQ dX4_depth_49 ⟨(by simp [hc_if, c4, c11, c21, c31, hcli0]), rfl⟩
abbrev rX4_stroke : Room := { frames := 6, cells := 0, slots := 0, locals := 155 }
set_option maxHeartbeats 1000000 in
set_option maxRecDepth 100000 in
theorem k_X4_stroke (l : Launch) (D : va_G) (cI cC : ClassId) (xa xb xc xd xe xf xg xh : Nat × va_E) (tl : va_W) (g : Nat → Nat) (bi wh se pi : Nat → Int32) (dn al tp bd : Int32) (s0 : Int32) (ax : Int32) (b0 : Int32) (u0 : Int32) (v0 : Int32) (x0 : Int32)  : hsI l yX4_stroke wsX4_stroke rX4_stroke D vwCl (hsT cI cC) [.ref (g 8), .int s0, .int ax, .int b0, .int u0, .int v0, .int x0] (hmW xa xb xc xd xe xf xg xh tl g cI bi wh se pi dn al tp bd) (fun r w => r = hc_if (hx_in s0 6 && (hx_in ax 3 && hy_sp u0 v0 x0)) (-1) (hy_st bi s0.toNatClampNeg ax b0 u0 v0 x0) ∧ w = (hmW xa xb xc xd xe xf xg xh tl g cI bi wh se pi dn al tp bd)) := by
  refine hsI.enter (cc := cX4_stroke) (maxL := 8) (ret := (some .int)) (by decide) rfl (Nat.le_of_ble_eq_true rfl) ?_
  intro Pg En Ss Mi Ar Be Me Co AA QQ hQ h hr hlk
  refine hs_lv (lv' := [(0, .ref (g 8)), (1, .int s0), (2, .int ax), (3, .int b0), (4, .int u0), (5, .int v0), (6, .int x0)]) rfl ?_
  refine hv_iload_n h dX4_stroke_0 1 rfl rfl ?_
  refine hv_callp (ws' := (hmW xa xb xc xd xe xf xg xh tl g cI bi wh se pi dn al tp bd)) (v := hx_b (hx_in s0 6)) h (hr_Si (n := 1) (rest := []) h (k_X4_isSolid l D cI cC (hmW xa xb xc xd xe xf xg xh tl g cI bi wh se pi dn al tp bd) s0) w_methodLink_X4_45 w_static_X4_isSolid w_initialized_X4 w_code_X4_isSolid (by decide +kernel) rfl rfl rfl ⟨by decide, by decide⟩ rfl (Nat.le_of_ble_eq_true rfl) ⟨Nat.zero_le _, Nat.zero_le _⟩ dX4_stroke_1) ?_
  refine hv_bif_eq h 72 dX4_stroke_4 rfl (fun c4 => ?_) (fun c4 => ?_)
  · refine hv_iconst h (0) dX4_stroke_72 (by decide) ?_
    refine hv_istore h [(7, .int 0), (0, .ref (g 8)), (1, .int s0), (2, .int ax), (3, .int b0), (4, .int u0), (5, .int v0), (6, .int x0)] dX4_stroke_73 (by decide) rfl ?_
    refine hv_iload h dX4_stroke_75 0 rfl ?_
    refine hv_if_eq h 96 dX4_stroke_77 rfl (fun c77 => ?_) (fun hc => absurd (by decide) hc)
    refine hv_iconst h ((-1)) dX4_stroke_96 (by decide) ?_
    exact hv_iret h hr hlk hQ dX4_stroke_97 ⟨(by simp [hc_if, hy_sp, c4, c77]), rfl⟩
  · refine hv_iload_n h dX4_stroke_7 2 rfl rfl ?_
    refine hv_callp (ws' := (hmW xa xb xc xd xe xf xg xh tl g cI bi wh se pi dn al tp bd)) (v := hx_b (hx_in ax 3)) h (hr_Si (n := 1) (rest := []) h (k_X4_isAxis l D cI cC (hmW xa xb xc xd xe xf xg xh tl g cI bi wh se pi dn al tp bd) ax) w_methodLink_X4_59 w_static_X4_isAxis w_initialized_X4 w_code_X4_isAxis (by decide +kernel) rfl rfl rfl ⟨by decide, by decide⟩ rfl (Nat.le_of_ble_eq_true rfl) ⟨Nat.zero_le _, Nat.zero_le _⟩ dX4_stroke_8) ?_
    refine hv_bif_eq h 72 dX4_stroke_11 rfl (fun c11 => ?_) (fun c11 => ?_)
    · refine hv_iconst h (0) dX4_stroke_72 (by decide) ?_
      refine hv_istore h [(7, .int 0), (0, .ref (g 8)), (1, .int s0), (2, .int ax), (3, .int b0), (4, .int u0), (5, .int v0), (6, .int x0)] dX4_stroke_73 (by decide) rfl ?_
      refine hv_iload h dX4_stroke_75 0 rfl ?_
      refine hv_if_eq h 96 dX4_stroke_77 rfl (fun c77 => ?_) (fun hc => absurd (by decide) hc)
      refine hv_iconst h ((-1)) dX4_stroke_96 (by decide) ?_
      exact hv_iret h hr hlk hQ dX4_stroke_97 ⟨(by simp [hc_if, hy_sp, c4, c11, c77]), rfl⟩
    · refine hv_iload h dX4_stroke_14 6 rfl ?_
      refine hv_if_ne h 42 dX4_stroke_16 rfl (fun c16 => ?_) (fun c16 => ?_)
      · refine hv_iload h dX4_stroke_42 6 rfl ?_
        refine hv_iconst h (1) dX4_stroke_44 (by decide) ?_
        refine hv_icmp_ne h 72 dX4_stroke_45 rfl (fun c45 => ?_) (fun c45 => ?_)
        · refine hv_iconst h (0) dX4_stroke_72 (by decide) ?_
          refine hv_istore h [(7, .int 0), (0, .ref (g 8)), (1, .int s0), (2, .int ax), (3, .int b0), (4, .int u0), (5, .int v0), (6, .int x0)] dX4_stroke_73 (by decide) rfl ?_
          refine hv_iload h dX4_stroke_75 0 rfl ?_
          refine hv_if_eq h 96 dX4_stroke_77 rfl (fun c77 => ?_) (fun hc => absurd (by decide) hc)
          refine hv_iconst h ((-1)) dX4_stroke_96 (by decide) ?_
          exact hv_iret h hr hlk hQ dX4_stroke_97 ⟨(by simp [hc_if, hy_sp, c4, c11, c16, c45, c77]), rfl⟩
        · refine hv_iload h dX4_stroke_48 4 rfl ?_
          refine hv_bipush h (12) dX4_stroke_50 (by decide) ?_
          refine hv_callp (ws' := (hmW xa xb xc xd xe xf xg xh tl g cI bi wh se pi dn al tp bd)) (v := hx_b (hx_in u0 12)) h (hr_Si (n := 2) (rest := []) h (k_X4_isIn l D cI cC (hmW xa xb xc xd xe xf xg xh tl g cI bi wh se pi dn al tp bd) u0 12) w_methodLink_X4_22 w_static_X4_isIn w_initialized_X4 w_code_X4_isIn (by decide +kernel) rfl rfl rfl ⟨by decide, by decide⟩ rfl (Nat.le_of_ble_eq_true rfl) ⟨Nat.zero_le _, Nat.zero_le _⟩ dX4_stroke_52) ?_
          refine hv_bif_eq h 72 dX4_stroke_55 rfl (fun c55 => ?_) (fun c55 => ?_)
          · refine hv_iconst h (0) dX4_stroke_72 (by decide) ?_
            refine hv_istore h [(7, .int 0), (0, .ref (g 8)), (1, .int s0), (2, .int ax), (3, .int b0), (4, .int u0), (5, .int v0), (6, .int x0)] dX4_stroke_73 (by decide) rfl ?_
            refine hv_iload h dX4_stroke_75 0 rfl ?_
            refine hv_if_eq h 96 dX4_stroke_77 rfl (fun c77 => ?_) (fun hc => absurd (by decide) hc)
            refine hv_iconst h ((-1)) dX4_stroke_96 (by decide) ?_
            exact hv_iret h hr hlk hQ dX4_stroke_97 ⟨(by simp [hc_if, hy_sp, c4, c11, c16, c45, c55, c77]), rfl⟩
          · refine hv_iload h dX4_stroke_58 5 rfl ?_
            refine hv_bipush h (13) dX4_stroke_60 (by decide) ?_
            refine hv_callp (ws' := (hmW xa xb xc xd xe xf xg xh tl g cI bi wh se pi dn al tp bd)) (v := hx_b (hx_in v0 13)) h (hr_Si (n := 2) (rest := []) h (k_X4_isIn l D cI cC (hmW xa xb xc xd xe xf xg xh tl g cI bi wh se pi dn al tp bd) v0 13) w_methodLink_X4_22 w_static_X4_isIn w_initialized_X4 w_code_X4_isIn (by decide +kernel) rfl rfl rfl ⟨by decide, by decide⟩ rfl (Nat.le_of_ble_eq_true rfl) ⟨Nat.zero_le _, Nat.zero_le _⟩ dX4_stroke_62) ?_
            refine hv_bif_eq h 72 dX4_stroke_65 rfl (fun c65 => ?_) (fun c65 => ?_)
            · refine hv_iconst h (0) dX4_stroke_72 (by decide) ?_
              refine hv_istore h [(7, .int 0), (0, .ref (g 8)), (1, .int s0), (2, .int ax), (3, .int b0), (4, .int u0), (5, .int v0), (6, .int x0)] dX4_stroke_73 (by decide) rfl ?_
              refine hv_iload h dX4_stroke_75 0 rfl ?_
              refine hv_if_eq h 96 dX4_stroke_77 rfl (fun c77 => ?_) (fun hc => absurd (by decide) hc)
              refine hv_iconst h ((-1)) dX4_stroke_96 (by decide) ?_
              exact hv_iret h hr hlk hQ dX4_stroke_97 ⟨(by simp [hc_if, hy_sp, c4, c11, c16, c45, c55, c65, c77]), rfl⟩
            · refine hv_iconst h (1) dX4_stroke_68 (by decide) ?_
              refine hv_goto h 73 dX4_stroke_69 rfl ?_
              refine hv_istore h [(7, .int 1), (0, .ref (g 8)), (1, .int s0), (2, .int ax), (3, .int b0), (4, .int u0), (5, .int v0), (6, .int x0)] dX4_stroke_73 (by decide) rfl ?_
              refine hv_iload h dX4_stroke_75 0 rfl ?_
              refine hv_if_eq h 96 dX4_stroke_77 rfl (fun hc => absurd hc (by decide)) (fun c77 => ?_)
              obtain ⟨i0, hi0, rfl⟩ := hx_in_nat (n := 6) (by decide) c4
              have hcli0 : (nI i0).toNatClampNeg = i0 := nI_clamp (by omega)
              refine hv_aload_n h dX4_stroke_80 1 rfl rfl ?_
              refine hv_iload_n h dX4_stroke_81 2 rfl rfl ?_
              refine hv_iload_n h dX4_stroke_82 3 rfl rfl ?_
              refine hv_iload_n h dX4_stroke_83 4 rfl rfl ?_
              refine hv_iload h dX4_stroke_84 5 rfl ?_
              refine hv_iload h dX4_stroke_86 6 rfl ?_
              refine hv_iload h dX4_stroke_88 7 rfl ?_
              refine hv_callp (ws' := (hmW xa xb xc xd xe xf xg xh tl g cI bi wh se pi dn al tp bd)) (v := hy_st bi i0 ax b0 u0 v0 x0) h (hr_Vi (n := 6) (rest := []) h 8 rfl rfl (k_X4_strokeOf l D cI cC xa xb xc xd xe xf xg xh tl g bi wh se pi dn al tp bd i0 ax b0 u0 v0 x0 (by omega)) w_methodLink_X4_107 w_instanceMethod_X4_strokeOf w_selects_X4_strokeOf w_initialized_X4 w_code_X4_strokeOf (by decide +kernel) rfl rfl rfl ⟨by decide, by decide⟩ rfl (Nat.le_of_ble_eq_true rfl) ⟨Nat.zero_le _, Nat.zero_le _⟩ dX4_stroke_90) ?_
              refine hv_goto h 97 dX4_stroke_93 rfl ?_
              exact hv_iret h hr hlk hQ dX4_stroke_97 ⟨(by simp [hc_if, hy_sp, c4, c11, c16, c45, c55, c65, c77, hcli0]), rfl⟩
      · refine hv_iload h dX4_stroke_19 4 rfl ?_
        refine hv_bipush h (13) dX4_stroke_21 (by decide) ?_
        refine hv_callp (ws' := (hmW xa xb xc xd xe xf xg xh tl g cI bi wh se pi dn al tp bd)) (v := hx_b (hx_in u0 13)) h (hr_Si (n := 2) (rest := []) h (k_X4_isIn l D cI cC (hmW xa xb xc xd xe xf xg xh tl g cI bi wh se pi dn al tp bd) u0 13) w_methodLink_X4_22 w_static_X4_isIn w_initialized_X4 w_code_X4_isIn (by decide +kernel) rfl rfl rfl ⟨by decide, by decide⟩ rfl (Nat.le_of_ble_eq_true rfl) ⟨Nat.zero_le _, Nat.zero_le _⟩ dX4_stroke_23) ?_
        refine hv_bif_eq h 72 dX4_stroke_26 rfl (fun c26 => ?_) (fun c26 => ?_)
        · refine hv_iconst h (0) dX4_stroke_72 (by decide) ?_
          refine hv_istore h [(7, .int 0), (0, .ref (g 8)), (1, .int s0), (2, .int ax), (3, .int b0), (4, .int u0), (5, .int v0), (6, .int x0)] dX4_stroke_73 (by decide) rfl ?_
          refine hv_iload h dX4_stroke_75 0 rfl ?_
          refine hv_if_eq h 96 dX4_stroke_77 rfl (fun c77 => ?_) (fun hc => absurd (by decide) hc)
          refine hv_iconst h ((-1)) dX4_stroke_96 (by decide) ?_
          exact hv_iret h hr hlk hQ dX4_stroke_97 ⟨(by simp [hc_if, hy_sp, c4, c11, c16, c26, c77]), rfl⟩
        · refine hv_iload h dX4_stroke_29 5 rfl ?_
          refine hv_bipush h (12) dX4_stroke_31 (by decide) ?_
          refine hv_callp (ws' := (hmW xa xb xc xd xe xf xg xh tl g cI bi wh se pi dn al tp bd)) (v := hx_b (hx_in v0 12)) h (hr_Si (n := 2) (rest := []) h (k_X4_isIn l D cI cC (hmW xa xb xc xd xe xf xg xh tl g cI bi wh se pi dn al tp bd) v0 12) w_methodLink_X4_22 w_static_X4_isIn w_initialized_X4 w_code_X4_isIn (by decide +kernel) rfl rfl rfl ⟨by decide, by decide⟩ rfl (Nat.le_of_ble_eq_true rfl) ⟨Nat.zero_le _, Nat.zero_le _⟩ dX4_stroke_33) ?_
          refine hv_bif_eq h 72 dX4_stroke_36 rfl (fun c36 => ?_) (fun c36 => ?_)
          · refine hv_iconst h (0) dX4_stroke_72 (by decide) ?_
            refine hv_istore h [(7, .int 0), (0, .ref (g 8)), (1, .int s0), (2, .int ax), (3, .int b0), (4, .int u0), (5, .int v0), (6, .int x0)] dX4_stroke_73 (by decide) rfl ?_
            refine hv_iload h dX4_stroke_75 0 rfl ?_
            refine hv_if_eq h 96 dX4_stroke_77 rfl (fun c77 => ?_) (fun hc => absurd (by decide) hc)
            refine hv_iconst h ((-1)) dX4_stroke_96 (by decide) ?_
            exact hv_iret h hr hlk hQ dX4_stroke_97 ⟨(by simp [hc_if, hy_sp, c4, c11, c16, c26, c36, c77]), rfl⟩
          · refine hv_goto h 68 dX4_stroke_39 rfl ?_
            refine hv_iconst h (1) dX4_stroke_68 (by decide) ?_
            refine hv_goto h 73 dX4_stroke_69 rfl ?_
            refine hv_istore h [(7, .int 1), (0, .ref (g 8)), (1, .int s0), (2, .int ax), (3, .int b0), (4, .int u0), (5, .int v0), (6, .int x0)] dX4_stroke_73 (by decide) rfl ?_
            refine hv_iload h dX4_stroke_75 0 rfl ?_
            refine hv_if_eq h 96 dX4_stroke_77 rfl (fun hc => absurd hc (by decide)) (fun c77 => ?_)
            obtain ⟨i0, hi0, rfl⟩ := hx_in_nat (n := 6) (by decide) c4
            have hcli0 : (nI i0).toNatClampNeg = i0 := nI_clamp (by omega)
            refine hv_aload_n h dX4_stroke_80 1 rfl rfl ?_
            refine hv_iload_n h dX4_stroke_81 2 rfl rfl ?_
            refine hv_iload_n h dX4_stroke_82 3 rfl rfl ?_
            refine hv_iload_n h dX4_stroke_83 4 rfl rfl ?_
            refine hv_iload h dX4_stroke_84 5 rfl ?_
            refine hv_iload h dX4_stroke_86 6 rfl ?_
            refine hv_iload h dX4_stroke_88 7 rfl ?_
            refine hv_callp (ws' := (hmW xa xb xc xd xe xf xg xh tl g cI bi wh se pi dn al tp bd)) (v := hy_st bi i0 ax b0 u0 v0 x0) h (hr_Vi (n := 6) (rest := []) h 8 rfl rfl (k_X4_strokeOf l D cI cC xa xb xc xd xe xf xg xh tl g bi wh se pi dn al tp bd i0 ax b0 u0 v0 x0 (by omega)) w_methodLink_X4_107 w_instanceMethod_X4_strokeOf w_selects_X4_strokeOf w_initialized_X4 w_code_X4_strokeOf (by decide +kernel) rfl rfl rfl ⟨by decide, by decide⟩ rfl (Nat.le_of_ble_eq_true rfl) ⟨Nat.zero_le _, Nat.zero_le _⟩ dX4_stroke_90) ?_
            refine hv_goto h 97 dX4_stroke_93 rfl ?_
            exact hv_iret h hr hlk hQ dX4_stroke_97 ⟨(by simp [hc_if, hy_sp, c4, c11, c16, c26, c36, c77, hcli0]), rfl⟩
abbrev rX4_strokes : Room := { frames := 6, cells := 0, slots := 0, locals := 155 }
set_option maxHeartbeats 1000000 in
set_option maxRecDepth 100000 in
theorem k_X4_strokes (l : Launch) (D : va_G) (cI cC : ClassId) (xa xb xc xd xe xf xg xh : Nat × va_E) (tl : va_W) (g : Nat → Nat) (bi wh se pi : Nat → Int32) (dn al tp bd : Int32) (s0 : Int32) (ax : Int32) (b0 : Int32) (w0 : Int32)  : hsI l yX4_strokes wsX4_strokes rX4_strokes D vwCl (hsT cI cC) [.ref (g 8), .int s0, .int ax, .int b0, .int w0] (hmW xa xb xc xd xe xf xg xh tl g cI bi wh se pi dn al tp bd) (fun r w => r = hc_if (hx_in s0 6 && (hx_in ax 3 && (!(decide (w0 < 1)) && decide (w0 ≤ 2)))) (-1) (hy_sk bi s0.toNatClampNeg ax b0 w0) ∧ w = (hmW xa xb xc xd xe xf xg xh tl g cI bi wh se pi dn al tp bd)) := by
  refine hsI.enter (cc := cX4_strokes) (maxL := 8) (ret := (some .int)) (by decide) rfl (Nat.le_of_ble_eq_true rfl) ?_
  intro Pg En Ss Mi Ar Be Me Co AA QQ hQ h hr hlk
  refine hs_lv (lv' := [(0, .ref (g 8)), (1, .int s0), (2, .int ax), (3, .int b0), (4, .int w0)]) rfl ?_
  refine hv_iload_n h dX4_strokes_0 1 rfl rfl ?_
  refine hv_callp (ws' := (hmW xa xb xc xd xe xf xg xh tl g cI bi wh se pi dn al tp bd)) (v := hx_b (hx_in s0 6)) h (hr_Si (n := 1) (rest := []) h (k_X4_isSolid l D cI cC (hmW xa xb xc xd xe xf xg xh tl g cI bi wh se pi dn al tp bd) s0) w_methodLink_X4_45 w_static_X4_isSolid w_initialized_X4 w_code_X4_isSolid (by decide +kernel) rfl rfl rfl ⟨by decide, by decide⟩ rfl (Nat.le_of_ble_eq_true rfl) ⟨Nat.zero_le _, Nat.zero_le _⟩ dX4_strokes_1) ?_
  refine hv_bif_eq h 26 dX4_strokes_4 rfl (fun c4 => ?_) (fun c4 => ?_)
  · refine hv_iconst h ((-1)) dX4_strokes_26 (by decide) ?_
    exact hv_iret h hr hlk hQ dX4_strokes_27 ⟨(by simp [hc_if, c4]), rfl⟩
  · refine hv_iload_n h dX4_strokes_7 2 rfl rfl ?_
    refine hv_callp (ws' := (hmW xa xb xc xd xe xf xg xh tl g cI bi wh se pi dn al tp bd)) (v := hx_b (hx_in ax 3)) h (hr_Si (n := 1) (rest := []) h (k_X4_isAxis l D cI cC (hmW xa xb xc xd xe xf xg xh tl g cI bi wh se pi dn al tp bd) ax) w_methodLink_X4_59 w_static_X4_isAxis w_initialized_X4 w_code_X4_isAxis (by decide +kernel) rfl rfl rfl ⟨by decide, by decide⟩ rfl (Nat.le_of_ble_eq_true rfl) ⟨Nat.zero_le _, Nat.zero_le _⟩ dX4_strokes_8) ?_
    refine hv_bif_eq h 26 dX4_strokes_11 rfl (fun c11 => ?_) (fun c11 => ?_)
    · refine hv_iconst h ((-1)) dX4_strokes_26 (by decide) ?_
      exact hv_iret h hr hlk hQ dX4_strokes_27 ⟨(by simp [hc_if, c4, c11]), rfl⟩
    · refine hv_iload h dX4_strokes_14 4 rfl ?_
      refine hv_iconst h (1) dX4_strokes_16 (by decide) ?_
      refine hv_icmp_lt h 26 dX4_strokes_17 rfl (fun c17 => ?_) (fun c17 => ?_)
      · refine hv_iconst h ((-1)) dX4_strokes_26 (by decide) ?_
        exact hv_iret h hr hlk hQ dX4_strokes_27 ⟨(by simp [hc_if, c4, c11, c17]), rfl⟩
      · refine hv_iload h dX4_strokes_20 4 rfl ?_
        refine hv_iconst h (2) dX4_strokes_22 (by decide) ?_
        refine hv_icmp_le h 28 dX4_strokes_23 rfl (fun c23 => ?_) (fun c23 => ?_)
        · obtain ⟨i0, hi0, rfl⟩ := hx_in_nat (n := 6) (by decide) c4
          have hcli0 : (nI i0).toNatClampNeg = i0 := nI_clamp (by omega)
          refine hv_iconst h (0) dX4_strokes_28 (by decide) ?_
          refine hv_istore h [(5, .int 0), (0, .ref (g 8)), (1, .int (nI i0)), (2, .int ax), (3, .int b0), (4, .int w0)] dX4_strokes_29 (by decide) rfl ?_
          refine hv_iconst h (nI 0) dX4_strokes_31 (by decide) ?_
          refine hv_istore h [(6, .int (nI 0)), (5, .int 0), (0, .ref (g 8)), (1, .int (nI i0)), (2, .int ax), (3, .int b0), (4, .int w0)] dX4_strokes_32 (by decide) rfl ?_
          have L34 : ∀ d34 u : Nat, u + d34 = 13 → ∀ (b5 : Int32), b5 = hx_it (fun u n => hx_it (fun v n => hy_sk1 bi i0 ax b0 w0 u v n) 12 n) u 0 → hsV Pg l En rX4_strokes Ss Mi Ar Be Me Co QQ 8 D vwCl AA Ss.heap 0 0 34 [(6, .int (nI u)), (5, .int b5), (0, .ref (g 8)), (1, .int (nI i0)), (2, .int ax), (3, .int b0), (4, .int w0)] (hmW xa xb xc xd xe xf xg xh tl g cI bi wh se pi dn al tp bd) [] := by
            intro d34
            induction d34 with
            | zero =>
              intro u kq34 b5 e_b5
              obtain rfl : u = 13 := by omega
              refine hv_iload h dX4_strokes_34 0 rfl ?_
              refine hv_bipush h (nI 13) dX4_strokes_36 (by decide) ?_
              refine hv_icmp_ge h 117 dX4_strokes_38 rfl (fun c38 => ?_) (fun hc => absurd (Int32.le_refl _) hc)
              refine hv_iload h dX4_strokes_117 1 rfl ?_
              exact hv_iret h hr hlk hQ dX4_strokes_119 ⟨(by rw [e_b5]; simp [hc_if, hy_sk, c4, c11, c17, c23, hcli0]), rfl⟩
            | succ d34 ih34 =>
              intro u kq34 b5 e_b5
              have hlt34 : u < 13 := by omega
              refine hv_iload h dX4_strokes_34 0 rfl ?_
              refine hv_bipush h (nI 13) dX4_strokes_36 (by decide) ?_
              refine hv_icmp_ge h 117 dX4_strokes_38 rfl (fun hc => absurd hc (nI_ge hlt34 (by decide))) (fun c38 => ?_)
              refine hv_iconst h (nI 0) dX4_strokes_41 (by decide) ?_
              refine hv_istore h [(7, .int (nI 0)), (6, .int (nI u)), (5, .int b5), (0, .ref (g 8)), (1, .int (nI i0)), (2, .int ax), (3, .int b0), (4, .int w0)] dX4_strokes_42 (by decide) rfl ?_
              have L44 : ∀ d44 v : Nat, v + d44 = 12 → ∀ (b6 : Int32), b6 = hx_it (fun v n => hy_sk1 bi i0 ax b0 w0 u v n) v b5 → hsV Pg l En rX4_strokes Ss Mi Ar Be Me Co QQ 8 D vwCl AA Ss.heap 0 0 44 [(7, .int (nI v)), (6, .int (nI u)), (5, .int b6), (0, .ref (g 8)), (1, .int (nI i0)), (2, .int ax), (3, .int b0), (4, .int w0)] (hmW xa xb xc xd xe xf xg xh tl g cI bi wh se pi dn al tp bd) [] := by
                intro d44
                induction d44 with
                | zero =>
                  intro v kq44 b6 e_b6
                  obtain rfl : v = 12 := by omega
                  refine hv_iload h dX4_strokes_44 0 rfl ?_
                  refine hv_bipush h (nI 12) dX4_strokes_46 (by decide) ?_
                  refine hv_icmp_ge h 111 dX4_strokes_48 rfl (fun c48 => ?_) (fun hc => absurd (Int32.le_refl _) hc)
                  refine hv_iinc h (nI (u + 1)) [(6, .int (nI (u + 1))), (7, .int (nI 12)), (5, .int b6), (0, .ref (g 8)), (1, .int (nI i0)), (2, .int ax), (3, .int b0), (4, .int w0)] dX4_strokes_111 1 rfl (hs_inc _) (by decide) rfl ?_
                  refine hv_goto h 34 dX4_strokes_114 rfl ?_
                  refine hs_pick (lv' := [(6, .int (nI (u + 1))), (5, .int b6), (0, .ref (g 8)), (1, .int (nI i0)), (2, .int ax), (3, .int b0), (4, .int w0)]) [0, 2, 3, 4, 5, 6, 7] rfl ?_
                  exact ih34 (u + 1) (by omega) _ (by rw [hx_it_s, ← e_b5]; try first | assumption | with_reducible rfl | (simp [c4, c11, c17, c23, hcli0, c38, c48]; done))
                | succ d44 ih44 =>
                  intro v kq44 b6 e_b6
                  have hlt44 : v < 12 := by omega
                  refine hv_iload h dX4_strokes_44 0 rfl ?_
                  refine hv_bipush h (nI 12) dX4_strokes_46 (by decide) ?_
                  refine hv_icmp_ge h 111 dX4_strokes_48 rfl (fun hc => absurd hc (nI_ge hlt44 (by decide))) (fun c48 => ?_)
                  refine hv_iload h dX4_strokes_51 2 rfl ?_
                  refine hv_aload_n h dX4_strokes_53 3 rfl rfl ?_
                  refine hv_iload_n h dX4_strokes_54 4 rfl rfl ?_
                  refine hv_iload_n h dX4_strokes_55 5 rfl rfl ?_
                  refine hv_iload_n h dX4_strokes_56 6 rfl rfl ?_
                  refine hv_iload h dX4_strokes_57 1 rfl ?_
                  refine hv_iload h dX4_strokes_59 0 rfl ?_
                  refine hv_iconst h (0) dX4_strokes_61 (by decide) ?_
                  refine hv_callp (ws' := (hmW xa xb xc xd xe xf xg xh tl g cI bi wh se pi dn al tp bd)) (v := hy_st bi i0 ax b0 (nI u) (nI v) 0) h (hr_Vi (n := 6) (rest := [.int b6]) h 8 rfl rfl (k_X4_strokeOf l D cI cC xa xb xc xd xe xf xg xh tl g bi wh se pi dn al tp bd i0 ax b0 (nI u) (nI v) 0 (by omega)) w_methodLink_X4_107 w_instanceMethod_X4_strokeOf w_selects_X4_strokeOf w_initialized_X4 w_code_X4_strokeOf (by decide +kernel) rfl rfl rfl ⟨by decide, by decide⟩ rfl (Nat.le_of_ble_eq_true rfl) ⟨Nat.zero_le _, Nat.zero_le _⟩ dX4_strokes_62) ?_
                  refine hv_iload h dX4_strokes_65 7 rfl ?_
                  refine hv_icmp_ne h 74 dX4_strokes_67 rfl (fun c67 => ?_) (fun c67 => ?_)
                  · refine hv_iconst h (0) dX4_strokes_74 (by decide) ?_
                    refine hv_iadd h dX4_strokes_75 ?_
                    refine hv_istore h [(5, .int (b6 + 0)), (7, .int (nI v)), (6, .int (nI u)), (0, .ref (g 8)), (1, .int (nI i0)), (2, .int ax), (3, .int b0), (4, .int w0)] dX4_strokes_76 (by decide) rfl ?_
                    refine hv_iload h dX4_strokes_78 0 rfl ?_
                    refine hv_aload_n h dX4_strokes_80 3 rfl rfl ?_
                    refine hv_iload_n h dX4_strokes_81 4 rfl rfl ?_
                    refine hv_iload_n h dX4_strokes_82 5 rfl rfl ?_
                    refine hv_iload_n h dX4_strokes_83 6 rfl rfl ?_
                    refine hv_iload h dX4_strokes_84 1 rfl ?_
                    refine hv_iload h dX4_strokes_86 2 rfl ?_
                    refine hv_iconst h (1) dX4_strokes_88 (by decide) ?_
                    refine hv_callp (ws' := (hmW xa xb xc xd xe xf xg xh tl g cI bi wh se pi dn al tp bd)) (v := hy_st bi i0 ax b0 (nI v) (nI u) 1) h (hr_Vi (n := 6) (rest := [.int (b6 + 0)]) h 8 rfl rfl (k_X4_strokeOf l D cI cC xa xb xc xd xe xf xg xh tl g bi wh se pi dn al tp bd i0 ax b0 (nI v) (nI u) 1 (by omega)) w_methodLink_X4_107 w_instanceMethod_X4_strokeOf w_selects_X4_strokeOf w_initialized_X4 w_code_X4_strokeOf (by decide +kernel) rfl rfl rfl ⟨by decide, by decide⟩ rfl (Nat.le_of_ble_eq_true rfl) ⟨Nat.zero_le _, Nat.zero_le _⟩ dX4_strokes_89) ?_
                    refine hv_iload h dX4_strokes_92 7 rfl ?_
                    refine hv_icmp_ne h 101 dX4_strokes_94 rfl (fun c94 => ?_) (fun c94 => ?_)
                    · refine hv_iconst h (0) dX4_strokes_101 (by decide) ?_
                      refine hv_iadd h dX4_strokes_102 ?_
                      refine hv_istore h [(5, .int ((b6 + 0) + 0)), (7, .int (nI v)), (6, .int (nI u)), (0, .ref (g 8)), (1, .int (nI i0)), (2, .int ax), (3, .int b0), (4, .int w0)] dX4_strokes_103 (by decide) rfl ?_
                      refine hv_iinc h (nI (v + 1)) [(7, .int (nI (v + 1))), (5, .int ((b6 + 0) + 0)), (6, .int (nI u)), (0, .ref (g 8)), (1, .int (nI i0)), (2, .int ax), (3, .int b0), (4, .int w0)] dX4_strokes_105 1 rfl (hs_inc _) (by decide) rfl ?_
                      refine hv_goto h 44 dX4_strokes_108 rfl ?_
                      refine hs_pick (lv' := [(7, .int (nI (v + 1))), (6, .int (nI u)), (5, .int ((b6 + 0) + 0)), (0, .ref (g 8)), (1, .int (nI i0)), (2, .int ax), (3, .int b0), (4, .int w0)]) [0, 2, 1, 3, 4, 5, 6, 7] rfl ?_
                      exact ih44 (v + 1) (by omega) _ (by rw [hx_it_s, ← e_b6]; try first | assumption | with_reducible rfl | (simp [hy_sk1, c4, c11, c17, c23, hcli0, c38, c48, c67, c94]; done))
                    · refine hv_iconst h (1) dX4_strokes_97 (by decide) ?_
                      refine hv_goto h 102 dX4_strokes_98 rfl ?_
                      refine hv_iadd h dX4_strokes_102 ?_
                      refine hv_istore h [(5, .int ((b6 + 0) + 1)), (7, .int (nI v)), (6, .int (nI u)), (0, .ref (g 8)), (1, .int (nI i0)), (2, .int ax), (3, .int b0), (4, .int w0)] dX4_strokes_103 (by decide) rfl ?_
                      refine hv_iinc h (nI (v + 1)) [(7, .int (nI (v + 1))), (5, .int ((b6 + 0) + 1)), (6, .int (nI u)), (0, .ref (g 8)), (1, .int (nI i0)), (2, .int ax), (3, .int b0), (4, .int w0)] dX4_strokes_105 1 rfl (hs_inc _) (by decide) rfl ?_
                      refine hv_goto h 44 dX4_strokes_108 rfl ?_
                      refine hs_pick (lv' := [(7, .int (nI (v + 1))), (6, .int (nI u)), (5, .int ((b6 + 0) + 1)), (0, .ref (g 8)), (1, .int (nI i0)), (2, .int ax), (3, .int b0), (4, .int w0)]) [0, 2, 1, 3, 4, 5, 6, 7] rfl ?_
                      exact ih44 (v + 1) (by omega) _ (by rw [hx_it_s, ← e_b6]; try first | assumption | with_reducible rfl | (simp [hy_sk1, c4, c11, c17, c23, hcli0, c38, c48, c67, c94]; done))
                  · refine hv_iconst h (1) dX4_strokes_70 (by decide) ?_
                    refine hv_goto h 75 dX4_strokes_71 rfl ?_
                    refine hv_iadd h dX4_strokes_75 ?_
                    refine hv_istore h [(5, .int (b6 + 1)), (7, .int (nI v)), (6, .int (nI u)), (0, .ref (g 8)), (1, .int (nI i0)), (2, .int ax), (3, .int b0), (4, .int w0)] dX4_strokes_76 (by decide) rfl ?_
                    refine hv_iload h dX4_strokes_78 0 rfl ?_
                    refine hv_aload_n h dX4_strokes_80 3 rfl rfl ?_
                    refine hv_iload_n h dX4_strokes_81 4 rfl rfl ?_
                    refine hv_iload_n h dX4_strokes_82 5 rfl rfl ?_
                    refine hv_iload_n h dX4_strokes_83 6 rfl rfl ?_
                    refine hv_iload h dX4_strokes_84 1 rfl ?_
                    refine hv_iload h dX4_strokes_86 2 rfl ?_
                    refine hv_iconst h (1) dX4_strokes_88 (by decide) ?_
                    refine hv_callp (ws' := (hmW xa xb xc xd xe xf xg xh tl g cI bi wh se pi dn al tp bd)) (v := hy_st bi i0 ax b0 (nI v) (nI u) 1) h (hr_Vi (n := 6) (rest := [.int (b6 + 1)]) h 8 rfl rfl (k_X4_strokeOf l D cI cC xa xb xc xd xe xf xg xh tl g bi wh se pi dn al tp bd i0 ax b0 (nI v) (nI u) 1 (by omega)) w_methodLink_X4_107 w_instanceMethod_X4_strokeOf w_selects_X4_strokeOf w_initialized_X4 w_code_X4_strokeOf (by decide +kernel) rfl rfl rfl ⟨by decide, by decide⟩ rfl (Nat.le_of_ble_eq_true rfl) ⟨Nat.zero_le _, Nat.zero_le _⟩ dX4_strokes_89) ?_
                    refine hv_iload h dX4_strokes_92 7 rfl ?_
                    refine hv_icmp_ne h 101 dX4_strokes_94 rfl (fun c94 => ?_) (fun c94 => ?_)
                    · refine hv_iconst h (0) dX4_strokes_101 (by decide) ?_
                      refine hv_iadd h dX4_strokes_102 ?_
                      refine hv_istore h [(5, .int ((b6 + 1) + 0)), (7, .int (nI v)), (6, .int (nI u)), (0, .ref (g 8)), (1, .int (nI i0)), (2, .int ax), (3, .int b0), (4, .int w0)] dX4_strokes_103 (by decide) rfl ?_
                      refine hv_iinc h (nI (v + 1)) [(7, .int (nI (v + 1))), (5, .int ((b6 + 1) + 0)), (6, .int (nI u)), (0, .ref (g 8)), (1, .int (nI i0)), (2, .int ax), (3, .int b0), (4, .int w0)] dX4_strokes_105 1 rfl (hs_inc _) (by decide) rfl ?_
                      refine hv_goto h 44 dX4_strokes_108 rfl ?_
                      refine hs_pick (lv' := [(7, .int (nI (v + 1))), (6, .int (nI u)), (5, .int ((b6 + 1) + 0)), (0, .ref (g 8)), (1, .int (nI i0)), (2, .int ax), (3, .int b0), (4, .int w0)]) [0, 2, 1, 3, 4, 5, 6, 7] rfl ?_
                      exact ih44 (v + 1) (by omega) _ (by rw [hx_it_s, ← e_b6]; try first | assumption | with_reducible rfl | (simp [hy_sk1, c4, c11, c17, c23, hcli0, c38, c48, c67, c94]; done))
                    · refine hv_iconst h (1) dX4_strokes_97 (by decide) ?_
                      refine hv_goto h 102 dX4_strokes_98 rfl ?_
                      refine hv_iadd h dX4_strokes_102 ?_
                      refine hv_istore h [(5, .int ((b6 + 1) + 1)), (7, .int (nI v)), (6, .int (nI u)), (0, .ref (g 8)), (1, .int (nI i0)), (2, .int ax), (3, .int b0), (4, .int w0)] dX4_strokes_103 (by decide) rfl ?_
                      refine hv_iinc h (nI (v + 1)) [(7, .int (nI (v + 1))), (5, .int ((b6 + 1) + 1)), (6, .int (nI u)), (0, .ref (g 8)), (1, .int (nI i0)), (2, .int ax), (3, .int b0), (4, .int w0)] dX4_strokes_105 1 rfl (hs_inc _) (by decide) rfl ?_
                      refine hv_goto h 44 dX4_strokes_108 rfl ?_
                      refine hs_pick (lv' := [(7, .int (nI (v + 1))), (6, .int (nI u)), (5, .int ((b6 + 1) + 1)), (0, .ref (g 8)), (1, .int (nI i0)), (2, .int ax), (3, .int b0), (4, .int w0)]) [0, 2, 1, 3, 4, 5, 6, 7] rfl ?_
                      exact ih44 (v + 1) (by omega) _ (by rw [hx_it_s, ← e_b6]; try first | assumption | with_reducible rfl | (simp [hy_sk1, c4, c11, c17, c23, hcli0, c38, c48, c67, c94]; done))
              exact L44 12 0 (by omega) _ rfl
          exact L34 13 0 (by omega) _ rfl
        · refine hv_iconst h ((-1)) dX4_strokes_26 (by decide) ?_
          exact hv_iret h hr hlk hQ dX4_strokes_27 ⟨(by simp [hc_if, c4, c11, c17, c23]), rfl⟩
abbrev rX4_same : Room := { frames := 1, cells := 0, slots := 0, locals := 20 }
set_option maxHeartbeats 1000000 in
set_option maxRecDepth 100000 in
theorem k_X4_same (l : Launch) (D : va_G) (cI cC : ClassId) (xa xb xc xd xe xf xg xh : Nat × va_E) (tl : va_W) (g : Nat → Nat) (bi wh se pi : Nat → Int32) (dn al tp bd : Int32) (s0 : Int32) (t0 : Int32)  : hsI l yX4_same wsX4_same rX4_same D vwCl (hsT cI cC) [.ref (g 8), .int s0, .int t0] (hmW xa xb xc xd xe xf xg xh tl g cI bi wh se pi dn al tp bd) (fun r w => r = hx_b (hx_in s0 6 && (hx_in t0 6 && hy_same bi s0.toNatClampNeg t0.toNatClampNeg)) ∧ w = (hmW xa xb xc xd xe xf xg xh tl g cI bi wh se pi dn al tp bd)) := by
  refine hsI.enter (cc := cX4_same) (maxL := 5) (ret := (some .boolean)) (by decide) rfl (Nat.le_of_ble_eq_true rfl) ?_
  intro Pg En Ss Mi Ar Be Me Co AA QQ hQ h hr hlk
  refine hs_lv (lv' := [(0, .ref (g 8)), (1, .int s0), (2, .int t0)]) rfl ?_
  refine hv_iload_n h dX4_same_0 1 rfl rfl ?_
  refine hv_callp (ws' := (hmW xa xb xc xd xe xf xg xh tl g cI bi wh se pi dn al tp bd)) (v := hx_b (hx_in s0 6)) h (hr_Si (n := 1) (rest := []) h (k_X4_isSolid l D cI cC (hmW xa xb xc xd xe xf xg xh tl g cI bi wh se pi dn al tp bd) s0) w_methodLink_X4_45 w_static_X4_isSolid w_initialized_X4 w_code_X4_isSolid (by decide +kernel) rfl rfl rfl ⟨by decide, by decide⟩ rfl (Nat.le_of_ble_eq_true rfl) ⟨Nat.zero_le _, Nat.zero_le _⟩ dX4_same_1) ?_
  refine hv_bif_eq h 14 dX4_same_4 rfl (fun c4 => ?_) (fun c4 => ?_)
  · refine hv_iconst h (0) dX4_same_14 (by decide) ?_
    exact hv_zret h hr hlk hQ dX4_same_15 rfl ⟨(by simp [hx_b, c4]), rfl⟩
  · refine hv_iload_n h dX4_same_7 2 rfl rfl ?_
    refine hv_callp (ws' := (hmW xa xb xc xd xe xf xg xh tl g cI bi wh se pi dn al tp bd)) (v := hx_b (hx_in t0 6)) h (hr_Si (n := 1) (rest := []) h (k_X4_isSolid l D cI cC (hmW xa xb xc xd xe xf xg xh tl g cI bi wh se pi dn al tp bd) t0) w_methodLink_X4_45 w_static_X4_isSolid w_initialized_X4 w_code_X4_isSolid (by decide +kernel) rfl rfl rfl ⟨by decide, by decide⟩ rfl (Nat.le_of_ble_eq_true rfl) ⟨Nat.zero_le _, Nat.zero_le _⟩ dX4_same_8) ?_
    refine hv_bif_ne h 16 dX4_same_11 rfl (fun c11 => ?_) (fun c11 => ?_)
    · obtain ⟨i0, hi0, rfl⟩ := hx_in_nat (n := 6) (by decide) c4
      have hcli0 : (nI i0).toNatClampNeg = i0 := nI_clamp (by omega)
      obtain ⟨i1, hi1, rfl⟩ := hx_in_nat (n := 6) (by decide) c11
      have hcli1 : (nI i1).toNatClampNeg = i1 := nI_clamp (by omega)
      refine hv_iconst h (1) dX4_same_16 (by decide) ?_
      refine hv_istore_n h [(3, .int 1), (0, .ref (g 8)), (1, .int (nI i0)), (2, .int (nI i1))] dX4_same_17 rfl (by decide) rfl ?_
      refine hv_iconst h (nI 0) dX4_same_18 (by decide) ?_
      refine hv_istore h [(4, .int (nI 0)), (3, .int 1), (0, .ref (g 8)), (1, .int (nI i0)), (2, .int (nI i1))] dX4_same_19 (by decide) rfl ?_
      have L21 : ∀ d21 k : Nat, k + d21 = 144 → ∀ (bb : Bool), bb = hx_it (fun k b => b && decide (bi (144 * i0 + k) = bi (144 * i1 + k))) k true → hsV Pg l En rX4_same Ss Mi Ar Be Me Co QQ 5 D vwCl AA Ss.heap 0 0 21 [(4, .int (nI k)), (3, .int (hx_b bb)), (0, .ref (g 8)), (1, .int (nI i0)), (2, .int (nI i1))] (hmW xa xb xc xd xe xf xg xh tl g cI bi wh se pi dn al tp bd) [] := by
        intro d21
        induction d21 with
        | zero =>
          intro k kq21 bb e_bb
          obtain rfl : k = 144 := by omega
          refine hv_iload h dX4_same_21 0 rfl ?_
          refine hv_sipush h (nI 144) dX4_same_23 (by decide) ?_
          refine hv_icmp_ge h 74 dX4_same_26 rfl (fun c26 => ?_) (fun hc => absurd (Int32.le_refl _) hc)
          refine hv_iload_n h dX4_same_74 1 rfl rfl ?_
          exact hv_zret h hr hlk hQ dX4_same_75 (hx_bnar _) ⟨(by rw [e_bb]; simp [hy_same, c4, c11, hcli0, hcli1]), rfl⟩
        | succ d21 ih21 =>
          intro k kq21 bb e_bb
          have hlt21 : k < 144 := by omega
          refine hv_iload h dX4_same_21 0 rfl ?_
          refine hv_sipush h (nI 144) dX4_same_23 (by decide) ?_
          refine hv_icmp_ge h 74 dX4_same_26 rfl (fun hc => absurd hc (nI_ge hlt21 (by decide))) (fun c26 => ?_)
          refine hv_iload_n h dX4_same_29 1 rfl rfl ?_
          refine hv_bif_eq h 66 dX4_same_30 rfl (fun c30 => ?_) (fun c30 => ?_)
          · refine hv_iconst h (0) dX4_same_66 (by decide) ?_
            refine hv_istore_n h [(3, .int 0), (4, .int (nI k)), (0, .ref (g 8)), (1, .int (nI i0)), (2, .int (nI i1))] dX4_same_67 rfl (by decide) rfl ?_
            refine hv_iinc h (nI (k + 1)) [(4, .int (nI (k + 1))), (3, .int 0), (0, .ref (g 8)), (1, .int (nI i0)), (2, .int (nI i1))] dX4_same_68 1 rfl (hs_inc _) (by decide) rfl ?_
            refine hv_goto h 21 dX4_same_71 rfl ?_
            exact ih21 (k + 1) (by omega) false (by rw [hx_it_s, ← e_bb]; simp [c30])
          · refine hv_aload_n h dX4_same_33 2 rfl rfl ?_
            refine hv_get (C := RX4) (T := TX4) (N := 8) h 8 rfl rfl 0 (by decide) wu_X4 w_fieldLink_X4_7 (fun _ h9 => h9) rfl dX4_same_34 ?_
            refine hv_sipush h (144) dX4_same_37 (by decide) ?_
            refine hv_iload_n h dX4_same_40 3 rfl rfl ?_
            refine hw_imul h (nI (144 * i0)) dX4_same_41 (pk_mul 144 i0) ?_
            refine hv_iload h dX4_same_42 0 rfl ?_
            refine hw_iadd h (nI ((144 * i0) + k)) dX4_same_44 (nI_add (144 * i0) k) ?_
            refine hv_iald (v := bi ((144 * i0) + k)) h 9 0 rfl rfl (vp_in_nI (by omega) (by decide)) (by rw [nI_clamp (by omega)]) dX4_same_45 ?_
            refine hv_aload_n h dX4_same_46 2 rfl rfl ?_
            refine hv_get (C := RX4) (T := TX4) (N := 8) h 8 rfl rfl 0 (by decide) wu_X4 w_fieldLink_X4_7 (fun _ h9 => h9) rfl dX4_same_47 ?_
            refine hv_sipush h (144) dX4_same_50 (by decide) ?_
            refine hv_iload_n h dX4_same_53 4 rfl rfl ?_
            refine hw_imul h (nI (144 * i1)) dX4_same_54 (pk_mul 144 i1) ?_
            refine hv_iload h dX4_same_55 0 rfl ?_
            refine hw_iadd h (nI ((144 * i1) + k)) dX4_same_57 (nI_add (144 * i1) k) ?_
            refine hv_iald (v := bi ((144 * i1) + k)) h 9 0 rfl rfl (vp_in_nI (by omega) (by decide)) (by rw [nI_clamp (by omega)]) dX4_same_58 ?_
            refine hv_icmp_ne h 66 dX4_same_59 rfl (fun c59 => ?_) (fun c59 => ?_)
            · refine hv_iconst h (0) dX4_same_66 (by decide) ?_
              refine hv_istore_n h [(3, .int 0), (4, .int (nI k)), (0, .ref (g 8)), (1, .int (nI i0)), (2, .int (nI i1))] dX4_same_67 rfl (by decide) rfl ?_
              refine hv_iinc h (nI (k + 1)) [(4, .int (nI (k + 1))), (3, .int 0), (0, .ref (g 8)), (1, .int (nI i0)), (2, .int (nI i1))] dX4_same_68 1 rfl (hs_inc _) (by decide) rfl ?_
              refine hv_goto h 21 dX4_same_71 rfl ?_
              exact ih21 (k + 1) (by omega) false (by rw [hx_it_s, ← e_bb]; simp [c30, c59])
            · refine hv_iconst h (1) dX4_same_62 (by decide) ?_
              refine hv_goto h 67 dX4_same_63 rfl ?_
              refine hv_istore_n h [(3, .int 1), (4, .int (nI k)), (0, .ref (g 8)), (1, .int (nI i0)), (2, .int (nI i1))] dX4_same_67 rfl (by decide) rfl ?_
              refine hv_iinc h (nI (k + 1)) [(4, .int (nI (k + 1))), (3, .int 1), (0, .ref (g 8)), (1, .int (nI i0)), (2, .int (nI i1))] dX4_same_68 1 rfl (hs_inc _) (by decide) rfl ?_
              refine hv_goto h 21 dX4_same_71 rfl ?_
              exact ih21 (k + 1) (by omega) true (by rw [hx_it_s, ← e_bb]; simp [c30, c59])
      exact L21 144 0 (by omega) true rfl
    · refine hv_iconst h (0) dX4_same_14 (by decide) ?_
      exact hv_zret h hr hlk hQ dX4_same_15 rfl ⟨(by simp [hx_b, c4, c11]), rfl⟩
abbrev rX4_inside : Room := { frames := 2, cells := 0, slots := 0, locals := 45 }
set_option maxHeartbeats 1000000 in
set_option maxRecDepth 100000 in
theorem k_X4_inside (l : Launch) (D : va_G) (cI cC : ClassId) (xa xb xc xd xe xf xg xh : Nat × va_E) (tl : va_W) (g : Nat → Nat) (bi wh se pi : Nat → Int32) (dn al tp bd : Int32) (s0 : Int32) (x0 : Int32) (y0 : Int32) (z0 : Int32)  : hsI l yX4_inside wsX4_inside rX4_inside D vwCl (hsT cI cC) [.ref (g 8), .int s0, .int x0, .int y0, .int z0] (hmW xa xb xc xd xe xf xg xh tl g cI bi wh se pi dn al tp bd) (fun r w => r = hc_if (hx_in s0 6 && (hx_in x0 13 && (hx_in y0 13 && hx_in z0 13))) (-9) (if hy_ins bi s0.toNatClampNeg x0 y0 z0 = 8 then 1 else if hy_ins bi s0.toNatClampNeg x0 y0 z0 ≤ 0 then -1 else 0) ∧ w = (hmW xa xb xc xd xe xf xg xh tl g cI bi wh se pi dn al tp bd)) := by
  refine hsI.enter (cc := cX4_inside) (maxL := 9) (ret := (some .int)) (by decide) rfl (Nat.le_of_ble_eq_true rfl) ?_
  intro Pg En Ss Mi Ar Be Me Co AA QQ hQ h hr hlk
  refine hs_lv (lv' := [(0, .ref (g 8)), (1, .int s0), (2, .int x0), (3, .int y0), (4, .int z0)]) rfl ?_
  refine hv_iload_n h dX4_inside_0 1 rfl rfl ?_
  refine hv_callp (ws' := (hmW xa xb xc xd xe xf xg xh tl g cI bi wh se pi dn al tp bd)) (v := hx_b (hx_in s0 6)) h (hr_Si (n := 1) (rest := []) h (k_X4_isSolid l D cI cC (hmW xa xb xc xd xe xf xg xh tl g cI bi wh se pi dn al tp bd) s0) w_methodLink_X4_45 w_static_X4_isSolid w_initialized_X4 w_code_X4_isSolid (by decide +kernel) rfl rfl rfl ⟨by decide, by decide⟩ rfl (Nat.le_of_ble_eq_true rfl) ⟨Nat.zero_le _, Nat.zero_le _⟩ dX4_inside_1) ?_
  refine hv_bif_eq h 35 dX4_inside_4 rfl (fun c4 => ?_) (fun c4 => ?_)
  · refine hv_bipush h ((-9)) dX4_inside_35 (by decide) ?_
    exact hv_iret h hr hlk hQ dX4_inside_37 ⟨(by simp [hc_if, c4]), rfl⟩
  · refine hv_iload_n h dX4_inside_7 2 rfl rfl ?_
    refine hv_bipush h (13) dX4_inside_8 (by decide) ?_
    refine hv_callp (ws' := (hmW xa xb xc xd xe xf xg xh tl g cI bi wh se pi dn al tp bd)) (v := hx_b (hx_in x0 13)) h (hr_Si (n := 2) (rest := []) h (k_X4_isIn l D cI cC (hmW xa xb xc xd xe xf xg xh tl g cI bi wh se pi dn al tp bd) x0 13) w_methodLink_X4_22 w_static_X4_isIn w_initialized_X4 w_code_X4_isIn (by decide +kernel) rfl rfl rfl ⟨by decide, by decide⟩ rfl (Nat.le_of_ble_eq_true rfl) ⟨Nat.zero_le _, Nat.zero_le _⟩ dX4_inside_10) ?_
    refine hv_bif_eq h 35 dX4_inside_13 rfl (fun c13 => ?_) (fun c13 => ?_)
    · refine hv_bipush h ((-9)) dX4_inside_35 (by decide) ?_
      exact hv_iret h hr hlk hQ dX4_inside_37 ⟨(by simp [hc_if, c4, c13]), rfl⟩
    · refine hv_iload_n h dX4_inside_16 3 rfl rfl ?_
      refine hv_bipush h (13) dX4_inside_17 (by decide) ?_
      refine hv_callp (ws' := (hmW xa xb xc xd xe xf xg xh tl g cI bi wh se pi dn al tp bd)) (v := hx_b (hx_in y0 13)) h (hr_Si (n := 2) (rest := []) h (k_X4_isIn l D cI cC (hmW xa xb xc xd xe xf xg xh tl g cI bi wh se pi dn al tp bd) y0 13) w_methodLink_X4_22 w_static_X4_isIn w_initialized_X4 w_code_X4_isIn (by decide +kernel) rfl rfl rfl ⟨by decide, by decide⟩ rfl (Nat.le_of_ble_eq_true rfl) ⟨Nat.zero_le _, Nat.zero_le _⟩ dX4_inside_19) ?_
      refine hv_bif_eq h 35 dX4_inside_22 rfl (fun c22 => ?_) (fun c22 => ?_)
      · refine hv_bipush h ((-9)) dX4_inside_35 (by decide) ?_
        exact hv_iret h hr hlk hQ dX4_inside_37 ⟨(by simp [hc_if, c4, c13, c22]), rfl⟩
      · refine hv_iload h dX4_inside_25 4 rfl ?_
        refine hv_bipush h (13) dX4_inside_27 (by decide) ?_
        refine hv_callp (ws' := (hmW xa xb xc xd xe xf xg xh tl g cI bi wh se pi dn al tp bd)) (v := hx_b (hx_in z0 13)) h (hr_Si (n := 2) (rest := []) h (k_X4_isIn l D cI cC (hmW xa xb xc xd xe xf xg xh tl g cI bi wh se pi dn al tp bd) z0 13) w_methodLink_X4_22 w_static_X4_isIn w_initialized_X4 w_code_X4_isIn (by decide +kernel) rfl rfl rfl ⟨by decide, by decide⟩ rfl (Nat.le_of_ble_eq_true rfl) ⟨Nat.zero_le _, Nat.zero_le _⟩ dX4_inside_29) ?_
        refine hv_bif_ne h 38 dX4_inside_32 rfl (fun c32 => ?_) (fun c32 => ?_)
        · obtain ⟨i0, hi0, rfl⟩ := hx_in_nat (n := 6) (by decide) c4
          have hcli0 : (nI i0).toNatClampNeg = i0 := nI_clamp (by omega)
          obtain ⟨p0, hp0, rfl⟩ := hx_in_nat (n := 13) (by decide) c13
          have hclp0 : (nI p0).toNatClampNeg = p0 := nI_clamp (by omega)
          obtain ⟨p1, hp1, rfl⟩ := hx_in_nat (n := 13) (by decide) c22
          have hclp1 : (nI p1).toNatClampNeg = p1 := nI_clamp (by omega)
          obtain ⟨p2, hp2, rfl⟩ := hx_in_nat (n := 13) (by decide) c32
          have hclp2 : (nI p2).toNatClampNeg = p2 := nI_clamp (by omega)
          refine hv_iconst h (0) dX4_inside_38 (by decide) ?_
          refine hv_istore h [(5, .int 0), (0, .ref (g 8)), (1, .int (nI i0)), (2, .int (nI p0)), (3, .int (nI p1)), (4, .int (nI p2))] dX4_inside_39 (by decide) rfl ?_
          refine hv_iload_n h dX4_inside_41 3 rfl rfl ?_
          refine hv_iconst h (1) dX4_inside_42 (by decide) ?_
          refine hv_isub h dX4_inside_43 ?_
          refine hv_istore h [(6, .int ((nI p0) - 1)), (5, .int 0), (0, .ref (g 8)), (1, .int (nI i0)), (2, .int (nI p0)), (3, .int (nI p1)), (4, .int (nI p2))] dX4_inside_44 (by decide) rfl ?_
          refine hv_iload h dX4_inside_46 0 rfl ?_
          refine hv_iload_n h dX4_inside_48 4 rfl rfl ?_
          refine hv_icmp_gt h 118 dX4_inside_49 rfl (fun hc => absurd hc (hs_m1n (by omega))) (fun c49 => ?_)
          refine hv_iload_n h dX4_inside_52 5 rfl rfl ?_
          refine hv_iconst h (1) dX4_inside_53 (by decide) ?_
          refine hv_isub h dX4_inside_54 ?_
          refine hv_istore h [(7, .int ((nI p1) - 1)), (6, .int ((nI p0) - 1)), (5, .int 0), (0, .ref (g 8)), (1, .int (nI i0)), (2, .int (nI p0)), (3, .int (nI p1)), (4, .int (nI p2))] dX4_inside_55 (by decide) rfl ?_
          refine hv_iload h dX4_inside_57 0 rfl ?_
          refine hv_iload_n h dX4_inside_59 6 rfl rfl ?_
          refine hv_icmp_gt h 112 dX4_inside_60 rfl (fun hc => absurd hc (hs_m1n (by omega))) (fun c60 => ?_)
          refine hv_iload h dX4_inside_63 7 rfl ?_
          refine hv_iconst h (1) dX4_inside_65 (by decide) ?_
          refine hv_isub h dX4_inside_66 ?_
          refine hv_istore h [(8, .int ((nI p2) - 1)), (7, .int ((nI p1) - 1)), (6, .int ((nI p0) - 1)), (5, .int 0), (0, .ref (g 8)), (1, .int (nI i0)), (2, .int (nI p0)), (3, .int (nI p1)), (4, .int (nI p2))] dX4_inside_67 (by decide) rfl ?_
          refine hv_iload h dX4_inside_69 0 rfl ?_
          refine hv_iload h dX4_inside_71 8 rfl ?_
          refine hv_icmp_gt h 106 dX4_inside_73 rfl (fun hc => absurd hc (hs_m1n (by omega))) (fun c73 => ?_)
          refine hv_iload h dX4_inside_76 3 rfl ?_
          refine hv_aload_n h dX4_inside_78 4 rfl rfl ?_
          refine hv_iload_n h dX4_inside_79 5 rfl rfl ?_
          refine hv_iload h dX4_inside_80 2 rfl ?_
          refine hv_iload h dX4_inside_82 1 rfl ?_
          refine hv_iload h dX4_inside_84 0 rfl ?_
          refine hv_callp (ws' := (hmW xa xb xc xd xe xf xg xh tl g cI bi wh se pi dn al tp bd)) (v := hx_b (hy_has bi i0 ((nI p0) - 1) ((nI p1) - 1) ((nI p2) - 1))) h (hr_Vi (n := 4) (rest := [.int 0]) h 8 rfl rfl (k_X4_has l D cI cC xa xb xc xd xe xf xg xh tl g bi wh se pi dn al tp bd i0 ((nI p0) - 1) ((nI p1) - 1) ((nI p2) - 1) (by omega)) w_methodLink_X4_26 w_instanceMethod_X4_has w_selects_X4_has w_initialized_X4 w_code_X4_has (by decide +kernel) rfl rfl rfl ⟨by decide, by decide⟩ rfl (Nat.le_of_ble_eq_true rfl) ⟨Nat.zero_le _, Nat.zero_le _⟩ dX4_inside_86) ?_
          refine hv_sel h 1 0 dX4_inside_89 rfl dX4_inside_92 (by decide) dX4_inside_93 rfl dX4_inside_96 (by decide) ?_
          refine hv_iadd h dX4_inside_97 ?_
          refine hv_istore h [(5, .int (0 + (hx_s (hy_has bi i0 ((nI p0) - 1) ((nI p1) - 1) ((nI p2) - 1)) 1 0))), (8, .int ((nI p2) - 1)), (7, .int ((nI p1) - 1)), (6, .int ((nI p0) - 1)), (0, .ref (g 8)), (1, .int (nI i0)), (2, .int (nI p0)), (3, .int (nI p1)), (4, .int (nI p2))] dX4_inside_98 (by decide) rfl ?_
          refine hv_iinc h (nI p2) [(8, .int (nI p2)), (5, .int (0 + (hx_s (hy_has bi i0 ((nI p0) - 1) ((nI p1) - 1) ((nI p2) - 1)) 1 0))), (7, .int ((nI p1) - 1)), (6, .int ((nI p0) - 1)), (0, .ref (g 8)), (1, .int (nI i0)), (2, .int (nI p0)), (3, .int (nI p1)), (4, .int (nI p2))] dX4_inside_100 1 rfl (hs_m1p _) (by decide) rfl ?_
          refine hv_goto h 69 dX4_inside_103 rfl ?_
          refine hv_iload h dX4_inside_69 0 rfl ?_
          refine hv_iload h dX4_inside_71 8 rfl ?_
          refine hv_icmp_gt h 106 dX4_inside_73 rfl (fun hc => absurd hc (fun q9 => Int32.lt_irrefl q9)) (fun c73_1 => ?_)
          refine hv_iload h dX4_inside_76 1 rfl ?_
          refine hv_aload_n h dX4_inside_78 4 rfl rfl ?_
          refine hv_iload_n h dX4_inside_79 5 rfl rfl ?_
          refine hv_iload h dX4_inside_80 3 rfl ?_
          refine hv_iload h dX4_inside_82 2 rfl ?_
          refine hv_iload h dX4_inside_84 0 rfl ?_
          refine hv_callp (ws' := (hmW xa xb xc xd xe xf xg xh tl g cI bi wh se pi dn al tp bd)) (v := hx_b (hy_has bi i0 ((nI p0) - 1) ((nI p1) - 1) (nI p2))) h (hr_Vi (n := 4) (rest := [.int (0 + (hx_s (hy_has bi i0 ((nI p0) - 1) ((nI p1) - 1) ((nI p2) - 1)) 1 0))]) h 8 rfl rfl (k_X4_has l D cI cC xa xb xc xd xe xf xg xh tl g bi wh se pi dn al tp bd i0 ((nI p0) - 1) ((nI p1) - 1) (nI p2) (by omega)) w_methodLink_X4_26 w_instanceMethod_X4_has w_selects_X4_has w_initialized_X4 w_code_X4_has (by decide +kernel) rfl rfl rfl ⟨by decide, by decide⟩ rfl (Nat.le_of_ble_eq_true rfl) ⟨Nat.zero_le _, Nat.zero_le _⟩ dX4_inside_86) ?_
          refine hv_sel h 1 0 dX4_inside_89 rfl dX4_inside_92 (by decide) dX4_inside_93 rfl dX4_inside_96 (by decide) ?_
          refine hv_iadd h dX4_inside_97 ?_
          refine hv_istore h [(5, .int ((0 + (hx_s (hy_has bi i0 ((nI p0) - 1) ((nI p1) - 1) ((nI p2) - 1)) 1 0)) + (hx_s (hy_has bi i0 ((nI p0) - 1) ((nI p1) - 1) (nI p2)) 1 0))), (8, .int (nI p2)), (7, .int ((nI p1) - 1)), (6, .int ((nI p0) - 1)), (0, .ref (g 8)), (1, .int (nI i0)), (2, .int (nI p0)), (3, .int (nI p1)), (4, .int (nI p2))] dX4_inside_98 (by decide) rfl ?_
          refine hv_iinc h (nI (p2 + 1)) [(8, .int (nI (p2 + 1))), (5, .int ((0 + (hx_s (hy_has bi i0 ((nI p0) - 1) ((nI p1) - 1) ((nI p2) - 1)) 1 0)) + (hx_s (hy_has bi i0 ((nI p0) - 1) ((nI p1) - 1) (nI p2)) 1 0))), (7, .int ((nI p1) - 1)), (6, .int ((nI p0) - 1)), (0, .ref (g 8)), (1, .int (nI i0)), (2, .int (nI p0)), (3, .int (nI p1)), (4, .int (nI p2))] dX4_inside_100 1 rfl (hs_inc _) (by decide) rfl ?_
          refine hv_goto h 69 dX4_inside_103 rfl ?_
          refine hv_iload h dX4_inside_69 0 rfl ?_
          refine hv_iload h dX4_inside_71 8 rfl ?_
          refine hv_icmp_gt h 106 dX4_inside_73 rfl (fun c73_2 => ?_) (fun hc => absurd (nI_lt (by omega) (by omega)) hc)
          refine hv_iinc h (nI p1) [(7, .int (nI p1)), (8, .int (nI (p2 + 1))), (5, .int ((0 + (hx_s (hy_has bi i0 ((nI p0) - 1) ((nI p1) - 1) ((nI p2) - 1)) 1 0)) + (hx_s (hy_has bi i0 ((nI p0) - 1) ((nI p1) - 1) (nI p2)) 1 0))), (6, .int ((nI p0) - 1)), (0, .ref (g 8)), (1, .int (nI i0)), (2, .int (nI p0)), (3, .int (nI p1)), (4, .int (nI p2))] dX4_inside_106 2 rfl (hs_m1p _) (by decide) rfl ?_
          refine hv_goto h 57 dX4_inside_109 rfl ?_
          refine hv_iload h dX4_inside_57 0 rfl ?_
          refine hv_iload_n h dX4_inside_59 7 rfl rfl ?_
          refine hv_icmp_gt h 112 dX4_inside_60 rfl (fun hc => absurd hc (fun q9 => Int32.lt_irrefl q9)) (fun c60_3 => ?_)
          refine hv_iload h dX4_inside_63 8 rfl ?_
          refine hv_iconst h (1) dX4_inside_65 (by decide) ?_
          refine hv_isub h dX4_inside_66 ?_
          refine hv_istore h [(8, .int ((nI p2) - 1)), (7, .int (nI p1)), (5, .int ((0 + (hx_s (hy_has bi i0 ((nI p0) - 1) ((nI p1) - 1) ((nI p2) - 1)) 1 0)) + (hx_s (hy_has bi i0 ((nI p0) - 1) ((nI p1) - 1) (nI p2)) 1 0))), (6, .int ((nI p0) - 1)), (0, .ref (g 8)), (1, .int (nI i0)), (2, .int (nI p0)), (3, .int (nI p1)), (4, .int (nI p2))] dX4_inside_67 (by decide) rfl ?_
          refine hv_iload h dX4_inside_69 0 rfl ?_
          refine hv_iload h dX4_inside_71 8 rfl ?_
          refine hv_icmp_gt h 106 dX4_inside_73 rfl (fun hc => absurd hc (hs_m1n (by omega))) (fun c73_4 => ?_)
          refine hv_iload h dX4_inside_76 2 rfl ?_
          refine hv_aload_n h dX4_inside_78 4 rfl rfl ?_
          refine hv_iload_n h dX4_inside_79 5 rfl rfl ?_
          refine hv_iload h dX4_inside_80 3 rfl ?_
          refine hv_iload h dX4_inside_82 1 rfl ?_
          refine hv_iload h dX4_inside_84 0 rfl ?_
          refine hv_callp (ws' := (hmW xa xb xc xd xe xf xg xh tl g cI bi wh se pi dn al tp bd)) (v := hx_b (hy_has bi i0 ((nI p0) - 1) (nI p1) ((nI p2) - 1))) h (hr_Vi (n := 4) (rest := [.int ((0 + (hx_s (hy_has bi i0 ((nI p0) - 1) ((nI p1) - 1) ((nI p2) - 1)) 1 0)) + (hx_s (hy_has bi i0 ((nI p0) - 1) ((nI p1) - 1) (nI p2)) 1 0))]) h 8 rfl rfl (k_X4_has l D cI cC xa xb xc xd xe xf xg xh tl g bi wh se pi dn al tp bd i0 ((nI p0) - 1) (nI p1) ((nI p2) - 1) (by omega)) w_methodLink_X4_26 w_instanceMethod_X4_has w_selects_X4_has w_initialized_X4 w_code_X4_has (by decide +kernel) rfl rfl rfl ⟨by decide, by decide⟩ rfl (Nat.le_of_ble_eq_true rfl) ⟨Nat.zero_le _, Nat.zero_le _⟩ dX4_inside_86) ?_
          refine hv_sel h 1 0 dX4_inside_89 rfl dX4_inside_92 (by decide) dX4_inside_93 rfl dX4_inside_96 (by decide) ?_
          refine hv_iadd h dX4_inside_97 ?_
          refine hv_istore h [(5, .int (((0 + (hx_s (hy_has bi i0 ((nI p0) - 1) ((nI p1) - 1) ((nI p2) - 1)) 1 0)) + (hx_s (hy_has bi i0 ((nI p0) - 1) ((nI p1) - 1) (nI p2)) 1 0)) + (hx_s (hy_has bi i0 ((nI p0) - 1) (nI p1) ((nI p2) - 1)) 1 0))), (8, .int ((nI p2) - 1)), (7, .int (nI p1)), (6, .int ((nI p0) - 1)), (0, .ref (g 8)), (1, .int (nI i0)), (2, .int (nI p0)), (3, .int (nI p1)), (4, .int (nI p2))] dX4_inside_98 (by decide) rfl ?_
          refine hv_iinc h (nI p2) [(8, .int (nI p2)), (5, .int (((0 + (hx_s (hy_has bi i0 ((nI p0) - 1) ((nI p1) - 1) ((nI p2) - 1)) 1 0)) + (hx_s (hy_has bi i0 ((nI p0) - 1) ((nI p1) - 1) (nI p2)) 1 0)) + (hx_s (hy_has bi i0 ((nI p0) - 1) (nI p1) ((nI p2) - 1)) 1 0))), (7, .int (nI p1)), (6, .int ((nI p0) - 1)), (0, .ref (g 8)), (1, .int (nI i0)), (2, .int (nI p0)), (3, .int (nI p1)), (4, .int (nI p2))] dX4_inside_100 1 rfl (hs_m1p _) (by decide) rfl ?_
          refine hv_goto h 69 dX4_inside_103 rfl ?_
          refine hv_iload h dX4_inside_69 0 rfl ?_
          refine hv_iload h dX4_inside_71 8 rfl ?_
          refine hv_icmp_gt h 106 dX4_inside_73 rfl (fun hc => absurd hc (fun q9 => Int32.lt_irrefl q9)) (fun c73_5 => ?_)
          refine hv_iload h dX4_inside_76 1 rfl ?_
          refine hv_aload_n h dX4_inside_78 4 rfl rfl ?_
          refine hv_iload_n h dX4_inside_79 5 rfl rfl ?_
          refine hv_iload h dX4_inside_80 3 rfl ?_
          refine hv_iload h dX4_inside_82 2 rfl ?_
          refine hv_iload h dX4_inside_84 0 rfl ?_
          refine hv_callp (ws' := (hmW xa xb xc xd xe xf xg xh tl g cI bi wh se pi dn al tp bd)) (v := hx_b (hy_has bi i0 ((nI p0) - 1) (nI p1) (nI p2))) h (hr_Vi (n := 4) (rest := [.int (((0 + (hx_s (hy_has bi i0 ((nI p0) - 1) ((nI p1) - 1) ((nI p2) - 1)) 1 0)) + (hx_s (hy_has bi i0 ((nI p0) - 1) ((nI p1) - 1) (nI p2)) 1 0)) + (hx_s (hy_has bi i0 ((nI p0) - 1) (nI p1) ((nI p2) - 1)) 1 0))]) h 8 rfl rfl (k_X4_has l D cI cC xa xb xc xd xe xf xg xh tl g bi wh se pi dn al tp bd i0 ((nI p0) - 1) (nI p1) (nI p2) (by omega)) w_methodLink_X4_26 w_instanceMethod_X4_has w_selects_X4_has w_initialized_X4 w_code_X4_has (by decide +kernel) rfl rfl rfl ⟨by decide, by decide⟩ rfl (Nat.le_of_ble_eq_true rfl) ⟨Nat.zero_le _, Nat.zero_le _⟩ dX4_inside_86) ?_
          refine hv_sel h 1 0 dX4_inside_89 rfl dX4_inside_92 (by decide) dX4_inside_93 rfl dX4_inside_96 (by decide) ?_
          refine hv_iadd h dX4_inside_97 ?_
          refine hv_istore h [(5, .int ((((0 + (hx_s (hy_has bi i0 ((nI p0) - 1) ((nI p1) - 1) ((nI p2) - 1)) 1 0)) + (hx_s (hy_has bi i0 ((nI p0) - 1) ((nI p1) - 1) (nI p2)) 1 0)) + (hx_s (hy_has bi i0 ((nI p0) - 1) (nI p1) ((nI p2) - 1)) 1 0)) + (hx_s (hy_has bi i0 ((nI p0) - 1) (nI p1) (nI p2)) 1 0))), (8, .int (nI p2)), (7, .int (nI p1)), (6, .int ((nI p0) - 1)), (0, .ref (g 8)), (1, .int (nI i0)), (2, .int (nI p0)), (3, .int (nI p1)), (4, .int (nI p2))] dX4_inside_98 (by decide) rfl ?_
          refine hv_iinc h (nI (p2 + 1)) [(8, .int (nI (p2 + 1))), (5, .int ((((0 + (hx_s (hy_has bi i0 ((nI p0) - 1) ((nI p1) - 1) ((nI p2) - 1)) 1 0)) + (hx_s (hy_has bi i0 ((nI p0) - 1) ((nI p1) - 1) (nI p2)) 1 0)) + (hx_s (hy_has bi i0 ((nI p0) - 1) (nI p1) ((nI p2) - 1)) 1 0)) + (hx_s (hy_has bi i0 ((nI p0) - 1) (nI p1) (nI p2)) 1 0))), (7, .int (nI p1)), (6, .int ((nI p0) - 1)), (0, .ref (g 8)), (1, .int (nI i0)), (2, .int (nI p0)), (3, .int (nI p1)), (4, .int (nI p2))] dX4_inside_100 1 rfl (hs_inc _) (by decide) rfl ?_
          refine hv_goto h 69 dX4_inside_103 rfl ?_
          refine hv_iload h dX4_inside_69 0 rfl ?_
          refine hv_iload h dX4_inside_71 8 rfl ?_
          refine hv_icmp_gt h 106 dX4_inside_73 rfl (fun c73_6 => ?_) (fun hc => absurd (nI_lt (by omega) (by omega)) hc)
          refine hv_iinc h (nI (p1 + 1)) [(7, .int (nI (p1 + 1))), (8, .int (nI (p2 + 1))), (5, .int ((((0 + (hx_s (hy_has bi i0 ((nI p0) - 1) ((nI p1) - 1) ((nI p2) - 1)) 1 0)) + (hx_s (hy_has bi i0 ((nI p0) - 1) ((nI p1) - 1) (nI p2)) 1 0)) + (hx_s (hy_has bi i0 ((nI p0) - 1) (nI p1) ((nI p2) - 1)) 1 0)) + (hx_s (hy_has bi i0 ((nI p0) - 1) (nI p1) (nI p2)) 1 0))), (6, .int ((nI p0) - 1)), (0, .ref (g 8)), (1, .int (nI i0)), (2, .int (nI p0)), (3, .int (nI p1)), (4, .int (nI p2))] dX4_inside_106 2 rfl (hs_inc _) (by decide) rfl ?_
          refine hv_goto h 57 dX4_inside_109 rfl ?_
          refine hv_iload h dX4_inside_57 0 rfl ?_
          refine hv_iload_n h dX4_inside_59 7 rfl rfl ?_
          refine hv_icmp_gt h 112 dX4_inside_60 rfl (fun c60_7 => ?_) (fun hc => absurd (nI_lt (by omega) (by omega)) hc)
          refine hv_iinc h (nI p0) [(6, .int (nI p0)), (7, .int (nI (p1 + 1))), (8, .int (nI (p2 + 1))), (5, .int ((((0 + (hx_s (hy_has bi i0 ((nI p0) - 1) ((nI p1) - 1) ((nI p2) - 1)) 1 0)) + (hx_s (hy_has bi i0 ((nI p0) - 1) ((nI p1) - 1) (nI p2)) 1 0)) + (hx_s (hy_has bi i0 ((nI p0) - 1) (nI p1) ((nI p2) - 1)) 1 0)) + (hx_s (hy_has bi i0 ((nI p0) - 1) (nI p1) (nI p2)) 1 0))), (0, .ref (g 8)), (1, .int (nI i0)), (2, .int (nI p0)), (3, .int (nI p1)), (4, .int (nI p2))] dX4_inside_112 3 rfl (hs_m1p _) (by decide) rfl ?_
          refine hv_goto h 46 dX4_inside_115 rfl ?_
          refine hv_iload h dX4_inside_46 0 rfl ?_
          refine hv_iload_n h dX4_inside_48 6 rfl rfl ?_
          refine hv_icmp_gt h 118 dX4_inside_49 rfl (fun hc => absurd hc (fun q9 => Int32.lt_irrefl q9)) (fun c49_8 => ?_)
          refine hv_iload_n h dX4_inside_52 7 rfl rfl ?_
          refine hv_iconst h (1) dX4_inside_53 (by decide) ?_
          refine hv_isub h dX4_inside_54 ?_
          refine hv_istore h [(7, .int ((nI p1) - 1)), (6, .int (nI p0)), (8, .int (nI (p2 + 1))), (5, .int ((((0 + (hx_s (hy_has bi i0 ((nI p0) - 1) ((nI p1) - 1) ((nI p2) - 1)) 1 0)) + (hx_s (hy_has bi i0 ((nI p0) - 1) ((nI p1) - 1) (nI p2)) 1 0)) + (hx_s (hy_has bi i0 ((nI p0) - 1) (nI p1) ((nI p2) - 1)) 1 0)) + (hx_s (hy_has bi i0 ((nI p0) - 1) (nI p1) (nI p2)) 1 0))), (0, .ref (g 8)), (1, .int (nI i0)), (2, .int (nI p0)), (3, .int (nI p1)), (4, .int (nI p2))] dX4_inside_55 (by decide) rfl ?_
          refine hv_iload h dX4_inside_57 0 rfl ?_
          refine hv_iload_n h dX4_inside_59 7 rfl rfl ?_
          refine hv_icmp_gt h 112 dX4_inside_60 rfl (fun hc => absurd hc (hs_m1n (by omega))) (fun c60_9 => ?_)
          refine hv_iload h dX4_inside_63 8 rfl ?_
          refine hv_iconst h (1) dX4_inside_65 (by decide) ?_
          refine hv_isub h dX4_inside_66 ?_
          refine hv_istore h [(8, .int ((nI p2) - 1)), (7, .int ((nI p1) - 1)), (6, .int (nI p0)), (5, .int ((((0 + (hx_s (hy_has bi i0 ((nI p0) - 1) ((nI p1) - 1) ((nI p2) - 1)) 1 0)) + (hx_s (hy_has bi i0 ((nI p0) - 1) ((nI p1) - 1) (nI p2)) 1 0)) + (hx_s (hy_has bi i0 ((nI p0) - 1) (nI p1) ((nI p2) - 1)) 1 0)) + (hx_s (hy_has bi i0 ((nI p0) - 1) (nI p1) (nI p2)) 1 0))), (0, .ref (g 8)), (1, .int (nI i0)), (2, .int (nI p0)), (3, .int (nI p1)), (4, .int (nI p2))] dX4_inside_67 (by decide) rfl ?_
          refine hv_iload h dX4_inside_69 0 rfl ?_
          refine hv_iload h dX4_inside_71 8 rfl ?_
          refine hv_icmp_gt h 106 dX4_inside_73 rfl (fun hc => absurd hc (hs_m1n (by omega))) (fun c73_10 => ?_)
          refine hv_iload h dX4_inside_76 3 rfl ?_
          refine hv_aload_n h dX4_inside_78 4 rfl rfl ?_
          refine hv_iload_n h dX4_inside_79 5 rfl rfl ?_
          refine hv_iload h dX4_inside_80 2 rfl ?_
          refine hv_iload h dX4_inside_82 1 rfl ?_
          refine hv_iload h dX4_inside_84 0 rfl ?_
          refine hv_callp (ws' := (hmW xa xb xc xd xe xf xg xh tl g cI bi wh se pi dn al tp bd)) (v := hx_b (hy_has bi i0 (nI p0) ((nI p1) - 1) ((nI p2) - 1))) h (hr_Vi (n := 4) (rest := [.int ((((0 + (hx_s (hy_has bi i0 ((nI p0) - 1) ((nI p1) - 1) ((nI p2) - 1)) 1 0)) + (hx_s (hy_has bi i0 ((nI p0) - 1) ((nI p1) - 1) (nI p2)) 1 0)) + (hx_s (hy_has bi i0 ((nI p0) - 1) (nI p1) ((nI p2) - 1)) 1 0)) + (hx_s (hy_has bi i0 ((nI p0) - 1) (nI p1) (nI p2)) 1 0))]) h 8 rfl rfl (k_X4_has l D cI cC xa xb xc xd xe xf xg xh tl g bi wh se pi dn al tp bd i0 (nI p0) ((nI p1) - 1) ((nI p2) - 1) (by omega)) w_methodLink_X4_26 w_instanceMethod_X4_has w_selects_X4_has w_initialized_X4 w_code_X4_has (by decide +kernel) rfl rfl rfl ⟨by decide, by decide⟩ rfl (Nat.le_of_ble_eq_true rfl) ⟨Nat.zero_le _, Nat.zero_le _⟩ dX4_inside_86) ?_
          refine hv_sel h 1 0 dX4_inside_89 rfl dX4_inside_92 (by decide) dX4_inside_93 rfl dX4_inside_96 (by decide) ?_
          refine hv_iadd h dX4_inside_97 ?_
          refine hv_istore h [(5, .int (((((0 + (hx_s (hy_has bi i0 ((nI p0) - 1) ((nI p1) - 1) ((nI p2) - 1)) 1 0)) + (hx_s (hy_has bi i0 ((nI p0) - 1) ((nI p1) - 1) (nI p2)) 1 0)) + (hx_s (hy_has bi i0 ((nI p0) - 1) (nI p1) ((nI p2) - 1)) 1 0)) + (hx_s (hy_has bi i0 ((nI p0) - 1) (nI p1) (nI p2)) 1 0)) + (hx_s (hy_has bi i0 (nI p0) ((nI p1) - 1) ((nI p2) - 1)) 1 0))), (8, .int ((nI p2) - 1)), (7, .int ((nI p1) - 1)), (6, .int (nI p0)), (0, .ref (g 8)), (1, .int (nI i0)), (2, .int (nI p0)), (3, .int (nI p1)), (4, .int (nI p2))] dX4_inside_98 (by decide) rfl ?_
          refine hv_iinc h (nI p2) [(8, .int (nI p2)), (5, .int (((((0 + (hx_s (hy_has bi i0 ((nI p0) - 1) ((nI p1) - 1) ((nI p2) - 1)) 1 0)) + (hx_s (hy_has bi i0 ((nI p0) - 1) ((nI p1) - 1) (nI p2)) 1 0)) + (hx_s (hy_has bi i0 ((nI p0) - 1) (nI p1) ((nI p2) - 1)) 1 0)) + (hx_s (hy_has bi i0 ((nI p0) - 1) (nI p1) (nI p2)) 1 0)) + (hx_s (hy_has bi i0 (nI p0) ((nI p1) - 1) ((nI p2) - 1)) 1 0))), (7, .int ((nI p1) - 1)), (6, .int (nI p0)), (0, .ref (g 8)), (1, .int (nI i0)), (2, .int (nI p0)), (3, .int (nI p1)), (4, .int (nI p2))] dX4_inside_100 1 rfl (hs_m1p _) (by decide) rfl ?_
          refine hv_goto h 69 dX4_inside_103 rfl ?_
          refine hv_iload h dX4_inside_69 0 rfl ?_
          refine hv_iload h dX4_inside_71 8 rfl ?_
          refine hv_icmp_gt h 106 dX4_inside_73 rfl (fun hc => absurd hc (fun q9 => Int32.lt_irrefl q9)) (fun c73_11 => ?_)
          refine hv_iload h dX4_inside_76 1 rfl ?_
          refine hv_aload_n h dX4_inside_78 4 rfl rfl ?_
          refine hv_iload_n h dX4_inside_79 5 rfl rfl ?_
          refine hv_iload h dX4_inside_80 3 rfl ?_
          refine hv_iload h dX4_inside_82 2 rfl ?_
          refine hv_iload h dX4_inside_84 0 rfl ?_
          refine hv_callp (ws' := (hmW xa xb xc xd xe xf xg xh tl g cI bi wh se pi dn al tp bd)) (v := hx_b (hy_has bi i0 (nI p0) ((nI p1) - 1) (nI p2))) h (hr_Vi (n := 4) (rest := [.int (((((0 + (hx_s (hy_has bi i0 ((nI p0) - 1) ((nI p1) - 1) ((nI p2) - 1)) 1 0)) + (hx_s (hy_has bi i0 ((nI p0) - 1) ((nI p1) - 1) (nI p2)) 1 0)) + (hx_s (hy_has bi i0 ((nI p0) - 1) (nI p1) ((nI p2) - 1)) 1 0)) + (hx_s (hy_has bi i0 ((nI p0) - 1) (nI p1) (nI p2)) 1 0)) + (hx_s (hy_has bi i0 (nI p0) ((nI p1) - 1) ((nI p2) - 1)) 1 0))]) h 8 rfl rfl (k_X4_has l D cI cC xa xb xc xd xe xf xg xh tl g bi wh se pi dn al tp bd i0 (nI p0) ((nI p1) - 1) (nI p2) (by omega)) w_methodLink_X4_26 w_instanceMethod_X4_has w_selects_X4_has w_initialized_X4 w_code_X4_has (by decide +kernel) rfl rfl rfl ⟨by decide, by decide⟩ rfl (Nat.le_of_ble_eq_true rfl) ⟨Nat.zero_le _, Nat.zero_le _⟩ dX4_inside_86) ?_
          refine hv_sel h 1 0 dX4_inside_89 rfl dX4_inside_92 (by decide) dX4_inside_93 rfl dX4_inside_96 (by decide) ?_
          refine hv_iadd h dX4_inside_97 ?_
          refine hv_istore h [(5, .int ((((((0 + (hx_s (hy_has bi i0 ((nI p0) - 1) ((nI p1) - 1) ((nI p2) - 1)) 1 0)) + (hx_s (hy_has bi i0 ((nI p0) - 1) ((nI p1) - 1) (nI p2)) 1 0)) + (hx_s (hy_has bi i0 ((nI p0) - 1) (nI p1) ((nI p2) - 1)) 1 0)) + (hx_s (hy_has bi i0 ((nI p0) - 1) (nI p1) (nI p2)) 1 0)) + (hx_s (hy_has bi i0 (nI p0) ((nI p1) - 1) ((nI p2) - 1)) 1 0)) + (hx_s (hy_has bi i0 (nI p0) ((nI p1) - 1) (nI p2)) 1 0))), (8, .int (nI p2)), (7, .int ((nI p1) - 1)), (6, .int (nI p0)), (0, .ref (g 8)), (1, .int (nI i0)), (2, .int (nI p0)), (3, .int (nI p1)), (4, .int (nI p2))] dX4_inside_98 (by decide) rfl ?_
          refine hv_iinc h (nI (p2 + 1)) [(8, .int (nI (p2 + 1))), (5, .int ((((((0 + (hx_s (hy_has bi i0 ((nI p0) - 1) ((nI p1) - 1) ((nI p2) - 1)) 1 0)) + (hx_s (hy_has bi i0 ((nI p0) - 1) ((nI p1) - 1) (nI p2)) 1 0)) + (hx_s (hy_has bi i0 ((nI p0) - 1) (nI p1) ((nI p2) - 1)) 1 0)) + (hx_s (hy_has bi i0 ((nI p0) - 1) (nI p1) (nI p2)) 1 0)) + (hx_s (hy_has bi i0 (nI p0) ((nI p1) - 1) ((nI p2) - 1)) 1 0)) + (hx_s (hy_has bi i0 (nI p0) ((nI p1) - 1) (nI p2)) 1 0))), (7, .int ((nI p1) - 1)), (6, .int (nI p0)), (0, .ref (g 8)), (1, .int (nI i0)), (2, .int (nI p0)), (3, .int (nI p1)), (4, .int (nI p2))] dX4_inside_100 1 rfl (hs_inc _) (by decide) rfl ?_
          refine hv_goto h 69 dX4_inside_103 rfl ?_
          refine hv_iload h dX4_inside_69 0 rfl ?_
          refine hv_iload h dX4_inside_71 8 rfl ?_
          refine hv_icmp_gt h 106 dX4_inside_73 rfl (fun c73_12 => ?_) (fun hc => absurd (nI_lt (by omega) (by omega)) hc)
          refine hv_iinc h (nI p1) [(7, .int (nI p1)), (8, .int (nI (p2 + 1))), (5, .int ((((((0 + (hx_s (hy_has bi i0 ((nI p0) - 1) ((nI p1) - 1) ((nI p2) - 1)) 1 0)) + (hx_s (hy_has bi i0 ((nI p0) - 1) ((nI p1) - 1) (nI p2)) 1 0)) + (hx_s (hy_has bi i0 ((nI p0) - 1) (nI p1) ((nI p2) - 1)) 1 0)) + (hx_s (hy_has bi i0 ((nI p0) - 1) (nI p1) (nI p2)) 1 0)) + (hx_s (hy_has bi i0 (nI p0) ((nI p1) - 1) ((nI p2) - 1)) 1 0)) + (hx_s (hy_has bi i0 (nI p0) ((nI p1) - 1) (nI p2)) 1 0))), (6, .int (nI p0)), (0, .ref (g 8)), (1, .int (nI i0)), (2, .int (nI p0)), (3, .int (nI p1)), (4, .int (nI p2))] dX4_inside_106 2 rfl (hs_m1p _) (by decide) rfl ?_
          refine hv_goto h 57 dX4_inside_109 rfl ?_
          refine hv_iload h dX4_inside_57 0 rfl ?_
          refine hv_iload_n h dX4_inside_59 7 rfl rfl ?_
          refine hv_icmp_gt h 112 dX4_inside_60 rfl (fun hc => absurd hc (fun q9 => Int32.lt_irrefl q9)) (fun c60_13 => ?_)
          refine hv_iload h dX4_inside_63 8 rfl ?_
          refine hv_iconst h (1) dX4_inside_65 (by decide) ?_
          refine hv_isub h dX4_inside_66 ?_
          refine hv_istore h [(8, .int ((nI p2) - 1)), (7, .int (nI p1)), (5, .int ((((((0 + (hx_s (hy_has bi i0 ((nI p0) - 1) ((nI p1) - 1) ((nI p2) - 1)) 1 0)) + (hx_s (hy_has bi i0 ((nI p0) - 1) ((nI p1) - 1) (nI p2)) 1 0)) + (hx_s (hy_has bi i0 ((nI p0) - 1) (nI p1) ((nI p2) - 1)) 1 0)) + (hx_s (hy_has bi i0 ((nI p0) - 1) (nI p1) (nI p2)) 1 0)) + (hx_s (hy_has bi i0 (nI p0) ((nI p1) - 1) ((nI p2) - 1)) 1 0)) + (hx_s (hy_has bi i0 (nI p0) ((nI p1) - 1) (nI p2)) 1 0))), (6, .int (nI p0)), (0, .ref (g 8)), (1, .int (nI i0)), (2, .int (nI p0)), (3, .int (nI p1)), (4, .int (nI p2))] dX4_inside_67 (by decide) rfl ?_
          refine hv_iload h dX4_inside_69 0 rfl ?_
          refine hv_iload h dX4_inside_71 8 rfl ?_
          refine hv_icmp_gt h 106 dX4_inside_73 rfl (fun hc => absurd hc (hs_m1n (by omega))) (fun c73_14 => ?_)
          refine hv_iload h dX4_inside_76 2 rfl ?_
          refine hv_aload_n h dX4_inside_78 4 rfl rfl ?_
          refine hv_iload_n h dX4_inside_79 5 rfl rfl ?_
          refine hv_iload h dX4_inside_80 3 rfl ?_
          refine hv_iload h dX4_inside_82 1 rfl ?_
          refine hv_iload h dX4_inside_84 0 rfl ?_
          refine hv_callp (ws' := (hmW xa xb xc xd xe xf xg xh tl g cI bi wh se pi dn al tp bd)) (v := hx_b (hy_has bi i0 (nI p0) (nI p1) ((nI p2) - 1))) h (hr_Vi (n := 4) (rest := [.int ((((((0 + (hx_s (hy_has bi i0 ((nI p0) - 1) ((nI p1) - 1) ((nI p2) - 1)) 1 0)) + (hx_s (hy_has bi i0 ((nI p0) - 1) ((nI p1) - 1) (nI p2)) 1 0)) + (hx_s (hy_has bi i0 ((nI p0) - 1) (nI p1) ((nI p2) - 1)) 1 0)) + (hx_s (hy_has bi i0 ((nI p0) - 1) (nI p1) (nI p2)) 1 0)) + (hx_s (hy_has bi i0 (nI p0) ((nI p1) - 1) ((nI p2) - 1)) 1 0)) + (hx_s (hy_has bi i0 (nI p0) ((nI p1) - 1) (nI p2)) 1 0))]) h 8 rfl rfl (k_X4_has l D cI cC xa xb xc xd xe xf xg xh tl g bi wh se pi dn al tp bd i0 (nI p0) (nI p1) ((nI p2) - 1) (by omega)) w_methodLink_X4_26 w_instanceMethod_X4_has w_selects_X4_has w_initialized_X4 w_code_X4_has (by decide +kernel) rfl rfl rfl ⟨by decide, by decide⟩ rfl (Nat.le_of_ble_eq_true rfl) ⟨Nat.zero_le _, Nat.zero_le _⟩ dX4_inside_86) ?_
          refine hv_sel h 1 0 dX4_inside_89 rfl dX4_inside_92 (by decide) dX4_inside_93 rfl dX4_inside_96 (by decide) ?_
          refine hv_iadd h dX4_inside_97 ?_
          refine hv_istore h [(5, .int (((((((0 + (hx_s (hy_has bi i0 ((nI p0) - 1) ((nI p1) - 1) ((nI p2) - 1)) 1 0)) + (hx_s (hy_has bi i0 ((nI p0) - 1) ((nI p1) - 1) (nI p2)) 1 0)) + (hx_s (hy_has bi i0 ((nI p0) - 1) (nI p1) ((nI p2) - 1)) 1 0)) + (hx_s (hy_has bi i0 ((nI p0) - 1) (nI p1) (nI p2)) 1 0)) + (hx_s (hy_has bi i0 (nI p0) ((nI p1) - 1) ((nI p2) - 1)) 1 0)) + (hx_s (hy_has bi i0 (nI p0) ((nI p1) - 1) (nI p2)) 1 0)) + (hx_s (hy_has bi i0 (nI p0) (nI p1) ((nI p2) - 1)) 1 0))), (8, .int ((nI p2) - 1)), (7, .int (nI p1)), (6, .int (nI p0)), (0, .ref (g 8)), (1, .int (nI i0)), (2, .int (nI p0)), (3, .int (nI p1)), (4, .int (nI p2))] dX4_inside_98 (by decide) rfl ?_
          refine hv_iinc h (nI p2) [(8, .int (nI p2)), (5, .int (((((((0 + (hx_s (hy_has bi i0 ((nI p0) - 1) ((nI p1) - 1) ((nI p2) - 1)) 1 0)) + (hx_s (hy_has bi i0 ((nI p0) - 1) ((nI p1) - 1) (nI p2)) 1 0)) + (hx_s (hy_has bi i0 ((nI p0) - 1) (nI p1) ((nI p2) - 1)) 1 0)) + (hx_s (hy_has bi i0 ((nI p0) - 1) (nI p1) (nI p2)) 1 0)) + (hx_s (hy_has bi i0 (nI p0) ((nI p1) - 1) ((nI p2) - 1)) 1 0)) + (hx_s (hy_has bi i0 (nI p0) ((nI p1) - 1) (nI p2)) 1 0)) + (hx_s (hy_has bi i0 (nI p0) (nI p1) ((nI p2) - 1)) 1 0))), (7, .int (nI p1)), (6, .int (nI p0)), (0, .ref (g 8)), (1, .int (nI i0)), (2, .int (nI p0)), (3, .int (nI p1)), (4, .int (nI p2))] dX4_inside_100 1 rfl (hs_m1p _) (by decide) rfl ?_
          refine hv_goto h 69 dX4_inside_103 rfl ?_
          refine hv_iload h dX4_inside_69 0 rfl ?_
          refine hv_iload h dX4_inside_71 8 rfl ?_
          refine hv_icmp_gt h 106 dX4_inside_73 rfl (fun hc => absurd hc (fun q9 => Int32.lt_irrefl q9)) (fun c73_15 => ?_)
          refine hv_iload h dX4_inside_76 1 rfl ?_
          refine hv_aload_n h dX4_inside_78 4 rfl rfl ?_
          refine hv_iload_n h dX4_inside_79 5 rfl rfl ?_
          refine hv_iload h dX4_inside_80 3 rfl ?_
          refine hv_iload h dX4_inside_82 2 rfl ?_
          refine hv_iload h dX4_inside_84 0 rfl ?_
          refine hv_callp (ws' := (hmW xa xb xc xd xe xf xg xh tl g cI bi wh se pi dn al tp bd)) (v := hx_b (hy_has bi i0 (nI p0) (nI p1) (nI p2))) h (hr_Vi (n := 4) (rest := [.int (((((((0 + (hx_s (hy_has bi i0 ((nI p0) - 1) ((nI p1) - 1) ((nI p2) - 1)) 1 0)) + (hx_s (hy_has bi i0 ((nI p0) - 1) ((nI p1) - 1) (nI p2)) 1 0)) + (hx_s (hy_has bi i0 ((nI p0) - 1) (nI p1) ((nI p2) - 1)) 1 0)) + (hx_s (hy_has bi i0 ((nI p0) - 1) (nI p1) (nI p2)) 1 0)) + (hx_s (hy_has bi i0 (nI p0) ((nI p1) - 1) ((nI p2) - 1)) 1 0)) + (hx_s (hy_has bi i0 (nI p0) ((nI p1) - 1) (nI p2)) 1 0)) + (hx_s (hy_has bi i0 (nI p0) (nI p1) ((nI p2) - 1)) 1 0))]) h 8 rfl rfl (k_X4_has l D cI cC xa xb xc xd xe xf xg xh tl g bi wh se pi dn al tp bd i0 (nI p0) (nI p1) (nI p2) (by omega)) w_methodLink_X4_26 w_instanceMethod_X4_has w_selects_X4_has w_initialized_X4 w_code_X4_has (by decide +kernel) rfl rfl rfl ⟨by decide, by decide⟩ rfl (Nat.le_of_ble_eq_true rfl) ⟨Nat.zero_le _, Nat.zero_le _⟩ dX4_inside_86) ?_
          refine hv_sel h 1 0 dX4_inside_89 rfl dX4_inside_92 (by decide) dX4_inside_93 rfl dX4_inside_96 (by decide) ?_
          refine hv_iadd h dX4_inside_97 ?_
          refine hv_istore h [(5, .int ((((((((0 + (hx_s (hy_has bi i0 ((nI p0) - 1) ((nI p1) - 1) ((nI p2) - 1)) 1 0)) + (hx_s (hy_has bi i0 ((nI p0) - 1) ((nI p1) - 1) (nI p2)) 1 0)) + (hx_s (hy_has bi i0 ((nI p0) - 1) (nI p1) ((nI p2) - 1)) 1 0)) + (hx_s (hy_has bi i0 ((nI p0) - 1) (nI p1) (nI p2)) 1 0)) + (hx_s (hy_has bi i0 (nI p0) ((nI p1) - 1) ((nI p2) - 1)) 1 0)) + (hx_s (hy_has bi i0 (nI p0) ((nI p1) - 1) (nI p2)) 1 0)) + (hx_s (hy_has bi i0 (nI p0) (nI p1) ((nI p2) - 1)) 1 0)) + (hx_s (hy_has bi i0 (nI p0) (nI p1) (nI p2)) 1 0))), (8, .int (nI p2)), (7, .int (nI p1)), (6, .int (nI p0)), (0, .ref (g 8)), (1, .int (nI i0)), (2, .int (nI p0)), (3, .int (nI p1)), (4, .int (nI p2))] dX4_inside_98 (by decide) rfl ?_
          refine hv_iinc h (nI (p2 + 1)) [(8, .int (nI (p2 + 1))), (5, .int ((((((((0 + (hx_s (hy_has bi i0 ((nI p0) - 1) ((nI p1) - 1) ((nI p2) - 1)) 1 0)) + (hx_s (hy_has bi i0 ((nI p0) - 1) ((nI p1) - 1) (nI p2)) 1 0)) + (hx_s (hy_has bi i0 ((nI p0) - 1) (nI p1) ((nI p2) - 1)) 1 0)) + (hx_s (hy_has bi i0 ((nI p0) - 1) (nI p1) (nI p2)) 1 0)) + (hx_s (hy_has bi i0 (nI p0) ((nI p1) - 1) ((nI p2) - 1)) 1 0)) + (hx_s (hy_has bi i0 (nI p0) ((nI p1) - 1) (nI p2)) 1 0)) + (hx_s (hy_has bi i0 (nI p0) (nI p1) ((nI p2) - 1)) 1 0)) + (hx_s (hy_has bi i0 (nI p0) (nI p1) (nI p2)) 1 0))), (7, .int (nI p1)), (6, .int (nI p0)), (0, .ref (g 8)), (1, .int (nI i0)), (2, .int (nI p0)), (3, .int (nI p1)), (4, .int (nI p2))] dX4_inside_100 1 rfl (hs_inc _) (by decide) rfl ?_
          refine hv_goto h 69 dX4_inside_103 rfl ?_
          refine hv_iload h dX4_inside_69 0 rfl ?_
          refine hv_iload h dX4_inside_71 8 rfl ?_
          refine hv_icmp_gt h 106 dX4_inside_73 rfl (fun c73_16 => ?_) (fun hc => absurd (nI_lt (by omega) (by omega)) hc)
          refine hv_iinc h (nI (p1 + 1)) [(7, .int (nI (p1 + 1))), (8, .int (nI (p2 + 1))), (5, .int ((((((((0 + (hx_s (hy_has bi i0 ((nI p0) - 1) ((nI p1) - 1) ((nI p2) - 1)) 1 0)) + (hx_s (hy_has bi i0 ((nI p0) - 1) ((nI p1) - 1) (nI p2)) 1 0)) + (hx_s (hy_has bi i0 ((nI p0) - 1) (nI p1) ((nI p2) - 1)) 1 0)) + (hx_s (hy_has bi i0 ((nI p0) - 1) (nI p1) (nI p2)) 1 0)) + (hx_s (hy_has bi i0 (nI p0) ((nI p1) - 1) ((nI p2) - 1)) 1 0)) + (hx_s (hy_has bi i0 (nI p0) ((nI p1) - 1) (nI p2)) 1 0)) + (hx_s (hy_has bi i0 (nI p0) (nI p1) ((nI p2) - 1)) 1 0)) + (hx_s (hy_has bi i0 (nI p0) (nI p1) (nI p2)) 1 0))), (6, .int (nI p0)), (0, .ref (g 8)), (1, .int (nI i0)), (2, .int (nI p0)), (3, .int (nI p1)), (4, .int (nI p2))] dX4_inside_106 2 rfl (hs_inc _) (by decide) rfl ?_
          refine hv_goto h 57 dX4_inside_109 rfl ?_
          refine hv_iload h dX4_inside_57 0 rfl ?_
          refine hv_iload_n h dX4_inside_59 7 rfl rfl ?_
          refine hv_icmp_gt h 112 dX4_inside_60 rfl (fun c60_17 => ?_) (fun hc => absurd (nI_lt (by omega) (by omega)) hc)
          refine hv_iinc h (nI (p0 + 1)) [(6, .int (nI (p0 + 1))), (7, .int (nI (p1 + 1))), (8, .int (nI (p2 + 1))), (5, .int ((((((((0 + (hx_s (hy_has bi i0 ((nI p0) - 1) ((nI p1) - 1) ((nI p2) - 1)) 1 0)) + (hx_s (hy_has bi i0 ((nI p0) - 1) ((nI p1) - 1) (nI p2)) 1 0)) + (hx_s (hy_has bi i0 ((nI p0) - 1) (nI p1) ((nI p2) - 1)) 1 0)) + (hx_s (hy_has bi i0 ((nI p0) - 1) (nI p1) (nI p2)) 1 0)) + (hx_s (hy_has bi i0 (nI p0) ((nI p1) - 1) ((nI p2) - 1)) 1 0)) + (hx_s (hy_has bi i0 (nI p0) ((nI p1) - 1) (nI p2)) 1 0)) + (hx_s (hy_has bi i0 (nI p0) (nI p1) ((nI p2) - 1)) 1 0)) + (hx_s (hy_has bi i0 (nI p0) (nI p1) (nI p2)) 1 0))), (0, .ref (g 8)), (1, .int (nI i0)), (2, .int (nI p0)), (3, .int (nI p1)), (4, .int (nI p2))] dX4_inside_112 3 rfl (hs_inc _) (by decide) rfl ?_
          refine hv_goto h 46 dX4_inside_115 rfl ?_
          refine hv_iload h dX4_inside_46 0 rfl ?_
          refine hv_iload_n h dX4_inside_48 6 rfl rfl ?_
          refine hv_icmp_gt h 118 dX4_inside_49 rfl (fun c49_18 => ?_) (fun hc => absurd (nI_lt (by omega) (by omega)) hc)
          refine hs_lv (lv' := [(6, .int (nI (p0 + 1))), (7, .int (nI (p1 + 1))), (8, .int (nI (p2 + 1))), (5, .int (hy_ins bi i0 (nI p0) (nI p1) (nI p2))), (0, .ref (g 8)), (1, .int (nI i0)), (2, .int (nI p0)), (3, .int (nI p1)), (4, .int (nI p2))]) rfl ?_
          refine hv_iload h dX4_inside_118 3 rfl ?_
          refine hv_bipush h (8) dX4_inside_120 (by decide) ?_
          refine hv_icmp_ne h 129 dX4_inside_122 rfl (fun c122 => ?_) (fun c122 => ?_)
          · refine hv_iload h dX4_inside_129 3 rfl ?_
            refine hv_if_le h 138 dX4_inside_131 rfl (fun c131 => ?_) (fun c131 => ?_)
            · refine hv_iconst h ((-1)) dX4_inside_138 (by decide) ?_
              exact hv_iret h hr hlk hQ dX4_inside_139 ⟨(by simp [hc_if, c4, c13, c22, c32, hcli0, hclp0, hclp1, hclp2, c122, c131]), rfl⟩
            · refine hv_iconst h (0) dX4_inside_134 (by decide) ?_
              refine hv_goto h 139 dX4_inside_135 rfl ?_
              exact hv_iret h hr hlk hQ dX4_inside_139 ⟨(by simp [hc_if, c4, c13, c22, c32, hcli0, hclp0, hclp1, hclp2, c122, c131]), rfl⟩
          · refine hv_iconst h (1) dX4_inside_125 (by decide) ?_
            refine hv_goto h 139 dX4_inside_126 rfl ?_
            exact hv_iret h hr hlk hQ dX4_inside_139 ⟨(by simp [hc_if, c4, c13, c22, c32, hcli0, hclp0, hclp1, hclp2, c122]), rfl⟩
        · refine hv_bipush h ((-9)) dX4_inside_35 (by decide) ?_
          exact hv_iret h hr hlk hQ dX4_inside_37 ⟨(by simp [hc_if, c4, c13, c22, c32]), rfl⟩
