abbrev rX4_isIn : Room := { frames := 0, cells := 0, slots := 0, locals := 0 }
set_option maxHeartbeats 1000000 in
set_option maxRecDepth 100000 in
theorem k_X4_isIn (l : Launch) (D : va_G) (cI cC : ClassId) (ws : va_W) (s0 : Int32) (w0 : Int32) : hsI l yX4_isIn wsX4_isIn rX4_isIn D vwCl (hsT cI cC) [.int s0, .int w0] ws (fun r w => r = hx_b (hx_in s0 w0) ∧ w = ws) := by
  refine hsI.enter (cc := cX4_isIn) (maxL := 2) (ret := (some .boolean)) (by decide) rfl (Nat.le_of_ble_eq_true rfl) ?_
  intro Pg En Ss Mi Ar Be Me Co AA QQ hQ h hr hlk
  refine hs_lv (lv' := [(0, .int s0), (1, .int w0)]) rfl ?_
  refine hv_iload_n h dX4_isIn_0 0 rfl rfl ?_
  refine hv_if_lt h 13 dX4_isIn_1 rfl (fun c1 => ?_) (fun c1 => ?_)
  · refine hv_iconst h (0) dX4_isIn_13 (by decide) ?_
    exact hv_zret h hr hlk hQ dX4_isIn_14 rfl ⟨(by first | with_reducible rfl | simp [hx_b, hx_in, c1]), rfl⟩
  · refine hv_iload_n h dX4_isIn_4 0 rfl rfl ?_
    refine hv_iload_n h dX4_isIn_5 1 rfl rfl ?_
    refine hv_icmp_ge h 13 dX4_isIn_6 rfl (fun c6 => ?_) (fun c6 => ?_)
    · refine hv_iconst h (0) dX4_isIn_13 (by decide) ?_
      exact hv_zret h hr hlk hQ dX4_isIn_14 rfl ⟨(by first | with_reducible rfl | simp [hx_b, hx_in, c1, c6]), rfl⟩
    · refine hv_iconst h (1) dX4_isIn_9 (by decide) ?_
      refine hv_goto h 14 dX4_isIn_10 rfl ?_
      exact hv_zret h hr hlk hQ dX4_isIn_14 rfl ⟨(by first | with_reducible rfl | simp [hx_b, hx_in, c1, c6]), rfl⟩
abbrev rX4_isSolid : Room := { frames := 0, cells := 0, slots := 0, locals := 0 }
set_option maxHeartbeats 1000000 in
set_option maxRecDepth 100000 in
theorem k_X4_isSolid (l : Launch) (D : va_G) (cI cC : ClassId) (ws : va_W) (s0 : Int32) : hsI l yX4_isSolid wsX4_isSolid rX4_isSolid D vwCl (hsT cI cC) [.int s0] ws (fun r w => r = hx_b (hx_in s0 6) ∧ w = ws) := by
  refine hsI.enter (cc := cX4_isSolid) (maxL := 1) (ret := (some .boolean)) (by decide) rfl (Nat.le_of_ble_eq_true rfl) ?_
  intro Pg En Ss Mi Ar Be Me Co AA QQ hQ h hr hlk
  refine hs_lv (lv' := [(0, .int s0)]) rfl ?_
  refine hv_iload_n h dX4_isSolid_0 0 rfl rfl ?_
  refine hv_if_lt h 14 dX4_isSolid_1 rfl (fun c1 => ?_) (fun c1 => ?_)
  · refine hv_iconst h (0) dX4_isSolid_14 (by decide) ?_
    exact hv_zret h hr hlk hQ dX4_isSolid_15 rfl ⟨(by first | with_reducible rfl | simp [hx_b, hx_in, c1]), rfl⟩
  · refine hv_iload_n h dX4_isSolid_4 0 rfl rfl ?_
    refine hv_bipush h (6) dX4_isSolid_5 (by decide) ?_
    refine hv_icmp_ge h 14 dX4_isSolid_7 rfl (fun c7 => ?_) (fun c7 => ?_)
    · refine hv_iconst h (0) dX4_isSolid_14 (by decide) ?_
      exact hv_zret h hr hlk hQ dX4_isSolid_15 rfl ⟨(by first | with_reducible rfl | simp [hx_b, hx_in, c1, c7]), rfl⟩
    · refine hv_iconst h (1) dX4_isSolid_10 (by decide) ?_
      refine hv_goto h 15 dX4_isSolid_11 rfl ?_
      exact hv_zret h hr hlk hQ dX4_isSolid_15 rfl ⟨(by first | with_reducible rfl | simp [hx_b, hx_in, c1, c7]), rfl⟩
abbrev rX4_isAxis : Room := { frames := 0, cells := 0, slots := 0, locals := 0 }
set_option maxHeartbeats 1000000 in
set_option maxRecDepth 100000 in
theorem k_X4_isAxis (l : Launch) (D : va_G) (cI cC : ClassId) (ws : va_W) (s0 : Int32) : hsI l yX4_isAxis wsX4_isAxis rX4_isAxis D vwCl (hsT cI cC) [.int s0] ws (fun r w => r = hx_b (hx_in s0 3) ∧ w = ws) := by
  refine hsI.enter (cc := cX4_isAxis) (maxL := 1) (ret := (some .boolean)) (by decide) rfl (Nat.le_of_ble_eq_true rfl) ?_
  intro Pg En Ss Mi Ar Be Me Co AA QQ hQ h hr hlk
  refine hs_lv (lv' := [(0, .int s0)]) rfl ?_
  refine hv_iload_n h dX4_isAxis_0 0 rfl rfl ?_
  refine hv_if_lt h 13 dX4_isAxis_1 rfl (fun c1 => ?_) (fun c1 => ?_)
  · refine hv_iconst h (0) dX4_isAxis_13 (by decide) ?_
    exact hv_zret h hr hlk hQ dX4_isAxis_14 rfl ⟨(by first | with_reducible rfl | simp [hx_b, hx_in, c1]), rfl⟩
  · refine hv_iload_n h dX4_isAxis_4 0 rfl rfl ?_
    refine hv_iconst h (3) dX4_isAxis_5 (by decide) ?_
    refine hv_icmp_ge h 13 dX4_isAxis_6 rfl (fun c6 => ?_) (fun c6 => ?_)
    · refine hv_iconst h (0) dX4_isAxis_13 (by decide) ?_
      exact hv_zret h hr hlk hQ dX4_isAxis_14 rfl ⟨(by first | with_reducible rfl | simp [hx_b, hx_in, c1, c6]), rfl⟩
    · refine hv_iconst h (1) dX4_isAxis_9 (by decide) ?_
      refine hv_goto h 14 dX4_isAxis_10 rfl ?_
      exact hv_zret h hr hlk hQ dX4_isAxis_14 rfl ⟨(by first | with_reducible rfl | simp [hx_b, hx_in, c1, c6]), rfl⟩
abbrev rX4_isBorder : Room := { frames := 0, cells := 0, slots := 0, locals := 0 }
set_option maxHeartbeats 1000000 in
set_option maxRecDepth 100000 in
theorem k_X4_isBorder (l : Launch) (D : va_G) (cI cC : ClassId) (ws : va_W) (s0 : Int32) : hsI l yX4_isBorder wsX4_isBorder rX4_isBorder D vwCl (hsT cI cC) [.int s0] ws (fun r w => r = hx_b (decide (s0 = 0) || decide (s0 = 11)) ∧ w = ws) := by
  refine hsI.enter (cc := cX4_isBorder) (maxL := 1) (ret := (some .boolean)) (by decide) rfl (Nat.le_of_ble_eq_true rfl) ?_
  intro Pg En Ss Mi Ar Be Me Co AA QQ hQ h hr hlk
  refine hs_lv (lv' := [(0, .int s0)]) rfl ?_
  refine hv_iload_n h dX4_isBorder_0 0 rfl rfl ?_
  refine hv_if_eq h 10 dX4_isBorder_1 rfl (fun c1 => ?_) (fun c1 => ?_)
  · refine hv_iconst h (1) dX4_isBorder_10 (by decide) ?_
    refine hv_goto h 15 dX4_isBorder_11 rfl ?_
    exact hv_zret h hr hlk hQ dX4_isBorder_15 rfl ⟨(by first | with_reducible rfl | simp [hx_b, c1]), rfl⟩
  · refine hv_iload_n h dX4_isBorder_4 0 rfl rfl ?_
    refine hv_bipush h (11) dX4_isBorder_5 (by decide) ?_
    refine hv_icmp_ne h 14 dX4_isBorder_7 rfl (fun c7 => ?_) (fun c7 => ?_)
    · refine hv_iconst h (0) dX4_isBorder_14 (by decide) ?_
      exact hv_zret h hr hlk hQ dX4_isBorder_15 rfl ⟨(by first | with_reducible rfl | simp [hx_b, c1, c7]), rfl⟩
    · refine hv_iconst h (1) dX4_isBorder_10 (by decide) ?_
      refine hv_goto h 15 dX4_isBorder_11 rfl ?_
      exact hv_zret h hr hlk hQ dX4_isBorder_15 rfl ⟨(by first | with_reducible rfl | simp [hx_b, c1, c7]), rfl⟩
abbrev rX4_shifted : Room := { frames := 1, cells := 0, slots := 0, locals := 21 }
set_option maxHeartbeats 1000000 in
set_option maxRecDepth 100000 in
theorem k_X4_shifted (l : Launch) (D : va_G) (cI cC : ClassId) (ws : va_W) (s0 : Int32) (w0 : Int32) : hsI l yX4_shifted wsX4_shifted rX4_shifted D vwCl (hsT cI cC) [.int s0, .int w0] ws (fun r w => r = hy_shd s0 w0 ∧ w = ws) := by
  refine hsI.enter (cc := cX4_shifted) (maxL := 2) (ret := (some .int)) (by decide) rfl (Nat.le_of_ble_eq_true rfl) ?_
  intro Pg En Ss Mi Ar Be Me Co AA QQ hQ h hr hlk
  refine hs_lv (lv' := [(0, .int s0), (1, .int w0)]) rfl ?_
  refine hv_iload_n h dX4_shifted_0 1 rfl rfl ?_
  refine hv_bipush h ((-12)) dX4_shifted_1 (by decide) ?_
  refine hv_icmp_le h 29 dX4_shifted_3 rfl (fun c3 => ?_) (fun c3 => ?_)
  · refine hv_iconst h ((-1)) dX4_shifted_29 (by decide) ?_
    exact hv_iret h hr hlk hQ dX4_shifted_30 ⟨(by first | with_reducible rfl | simp [hx_b, hy_shd, c3]), rfl⟩
  · refine hv_iload_n h dX4_shifted_6 1 rfl rfl ?_
    refine hv_bipush h (12) dX4_shifted_7 (by decide) ?_
    refine hv_icmp_ge h 29 dX4_shifted_9 rfl (fun c9 => ?_) (fun c9 => ?_)
    · refine hv_iconst h ((-1)) dX4_shifted_29 (by decide) ?_
      exact hv_iret h hr hlk hQ dX4_shifted_30 ⟨(by first | with_reducible rfl | simp [hx_b, hy_shd, c3, c9]), rfl⟩
    · refine hv_iload_n h dX4_shifted_12 0 rfl rfl ?_
      refine hv_iload_n h dX4_shifted_13 1 rfl rfl ?_
      refine hv_iadd h dX4_shifted_14 ?_
      refine hv_bipush h (12) dX4_shifted_15 (by decide) ?_
      refine hv_callp (ws' := ws) (v := hx_b (hx_in (s0 + w0) 12)) h (hr_Si (n := 2) (rest := []) h (k_X4_isIn l D cI cC ws (s0 + w0) 12) w_methodLink_X4_22 w_static_X4_isIn w_initialized_X4 w_code_X4_isIn (by decide +kernel) rfl rfl rfl ⟨by decide, by decide⟩ rfl (Nat.le_of_ble_eq_true rfl) ⟨Nat.zero_le _, Nat.zero_le _⟩ dX4_shifted_17) ?_
      refine hv_bif_eq h 29 dX4_shifted_20 rfl (fun c20 => ?_) (fun c20 => ?_)
      · refine hv_iconst h ((-1)) dX4_shifted_29 (by decide) ?_
        exact hv_iret h hr hlk hQ dX4_shifted_30 ⟨(by first | with_reducible rfl | simp [hx_b, hy_shd, c3, c9, c20]), rfl⟩
      · refine hv_iload_n h dX4_shifted_23 0 rfl rfl ?_
        refine hv_iload_n h dX4_shifted_24 1 rfl rfl ?_
        refine hv_iadd h dX4_shifted_25 ?_
        refine hv_goto h 30 dX4_shifted_26 rfl ?_
        exact hv_iret h hr hlk hQ dX4_shifted_30 ⟨(by first | with_reducible rfl | simp [hx_b, hy_shd, c3, c9, c20]), rfl⟩
abbrev rX4_has : Room := { frames := 1, cells := 0, slots := 0, locals := 21 }
set_option maxHeartbeats 1000000 in
set_option maxRecDepth 100000 in
theorem k_X4_has (l : Launch) (D : va_G) (cI cC : ClassId) (xa xb xc xd xe xf xg xh : Nat × va_E) (tl : va_W) (g : Nat → Nat) (bi wh se pi : Nat → Int32) (dn al tp bd : Int32) (s0 : Nat) (x0 : Int32) (y0 : Int32) (z0 : Int32) (hs : s0 < 6) : hsI l yX4_has wsX4_has rX4_has D vwCl (hsT cI cC) [.ref (g 8), .int (nI s0), .int x0, .int y0, .int z0] (hmW xa xb xc xd xe xf xg xh tl g cI bi wh se pi dn al tp bd) (fun r w => r = hx_b (hy_has bi s0 x0 y0 z0) ∧ w = (hmW xa xb xc xd xe xf xg xh tl g cI bi wh se pi dn al tp bd)) := by
  refine hsI.enter (cc := cX4_has) (maxL := 5) (ret := (some .boolean)) (by decide) rfl (Nat.le_of_ble_eq_true rfl) ?_
  intro Pg En Ss Mi Ar Be Me Co AA QQ hQ h hr hlk
  refine hs_lv (lv' := [(0, .ref (g 8)), (1, .int (nI s0)), (2, .int x0), (3, .int y0), (4, .int z0)]) rfl ?_
  refine hv_iload_n h dX4_has_0 2 rfl rfl ?_
  refine hv_bipush h (12) dX4_has_1 (by decide) ?_
  refine hv_callp (ws' := (hmW xa xb xc xd xe xf xg xh tl g cI bi wh se pi dn al tp bd)) (v := hx_b (hx_in x0 12)) h (hr_Si (n := 2) (rest := []) h (k_X4_isIn l D cI cC (hmW xa xb xc xd xe xf xg xh tl g cI bi wh se pi dn al tp bd) x0 12) w_methodLink_X4_22 w_static_X4_isIn w_initialized_X4 w_code_X4_isIn (by decide +kernel) rfl rfl rfl ⟨by decide, by decide⟩ rfl (Nat.le_of_ble_eq_true rfl) ⟨Nat.zero_le _, Nat.zero_le _⟩ dX4_has_3) ?_
  refine hv_bif_eq h 58 dX4_has_6 rfl (fun c6 => ?_) (fun c6 => ?_)
  · refine hv_iconst h (0) dX4_has_58 (by decide) ?_
    exact hv_zret h hr hlk hQ dX4_has_59 rfl ⟨(by first | with_reducible rfl | simp [hx_b, hy_has, c6]), rfl⟩
  · refine hv_iload_n h dX4_has_9 3 rfl rfl ?_
    refine hv_bipush h (12) dX4_has_10 (by decide) ?_
    refine hv_callp (ws' := (hmW xa xb xc xd xe xf xg xh tl g cI bi wh se pi dn al tp bd)) (v := hx_b (hx_in y0 12)) h (hr_Si (n := 2) (rest := []) h (k_X4_isIn l D cI cC (hmW xa xb xc xd xe xf xg xh tl g cI bi wh se pi dn al tp bd) y0 12) w_methodLink_X4_22 w_static_X4_isIn w_initialized_X4 w_code_X4_isIn (by decide +kernel) rfl rfl rfl ⟨by decide, by decide⟩ rfl (Nat.le_of_ble_eq_true rfl) ⟨Nat.zero_le _, Nat.zero_le _⟩ dX4_has_12) ?_
    refine hv_bif_eq h 58 dX4_has_15 rfl (fun c15 => ?_) (fun c15 => ?_)
    · refine hv_iconst h (0) dX4_has_58 (by decide) ?_
      exact hv_zret h hr hlk hQ dX4_has_59 rfl ⟨(by first | with_reducible rfl | simp [hx_b, hy_has, c6, c15]), rfl⟩
    · refine hv_iload h dX4_has_18 4 rfl ?_
      refine hv_bipush h (12) dX4_has_20 (by decide) ?_
      refine hv_callp (ws' := (hmW xa xb xc xd xe xf xg xh tl g cI bi wh se pi dn al tp bd)) (v := hx_b (hx_in z0 12)) h (hr_Si (n := 2) (rest := []) h (k_X4_isIn l D cI cC (hmW xa xb xc xd xe xf xg xh tl g cI bi wh se pi dn al tp bd) z0 12) w_methodLink_X4_22 w_static_X4_isIn w_initialized_X4 w_code_X4_isIn (by decide +kernel) rfl rfl rfl ⟨by decide, by decide⟩ rfl (Nat.le_of_ble_eq_true rfl) ⟨Nat.zero_le _, Nat.zero_le _⟩ dX4_has_22) ?_
      refine hv_bif_eq h 58 dX4_has_25 rfl (fun c25 => ?_) (fun c25 => ?_)
      · refine hv_iconst h (0) dX4_has_58 (by decide) ?_
        exact hv_zret h hr hlk hQ dX4_has_59 rfl ⟨(by first | with_reducible rfl | simp [hx_b, hy_has, c6, c15, c25]), rfl⟩
      · refine hv_aload_n h dX4_has_28 0 rfl rfl ?_
        refine hv_get (C := RX4) (T := TX4) (N := 8) h 8 rfl rfl 0 (by decide) wu_X4 w_fieldLink_X4_7 (fun _ h9 => h9) rfl dX4_has_29 ?_
        refine hv_sipush h (144) dX4_has_32 (by decide) ?_
        refine hv_iload_n h dX4_has_35 1 rfl rfl ?_
        refine hw_imul h (nI (144 * s0)) dX4_has_36 (pk_mul 144 s0) ?_
        refine hv_bipush h (12) dX4_has_37 (by decide) ?_
        refine hv_iload_n h dX4_has_39 2 rfl rfl ?_
        refine hv_imul h dX4_has_40 ?_
        refine hv_iadd h dX4_has_41 ?_
        refine hv_iload_n h dX4_has_42 3 rfl rfl ?_
        refine hv_iadd h dX4_has_43 ?_
        refine hv_iald (v := bi (hy_ix s0 x0 y0).toNatClampNeg) h 9 0 rfl rfl (hy_ixv hs c6 c15) rfl dX4_has_44 ?_
        refine hv_iload h dX4_has_45 4 rfl ?_
        refine hv_ishr h dX4_has_47 ?_
        refine hv_iconst h (1) dX4_has_48 (by decide) ?_
        refine hv_iand h dX4_has_49 ?_
        refine hv_iconst h (1) dX4_has_50 (by decide) ?_
        refine hv_icmp_ne h 58 dX4_has_51 rfl (fun c51 => ?_) (fun c51 => ?_)
        · refine hv_iconst h (0) dX4_has_58 (by decide) ?_
          exact hv_zret h hr hlk hQ dX4_has_59 rfl ⟨(by first | with_reducible rfl | simp [hx_b, hy_has, c6, c15, c25, c51]), rfl⟩
        · refine hv_iconst h (1) dX4_has_54 (by decide) ?_
          refine hv_goto h 59 dX4_has_55 rfl ?_
          exact hv_zret h hr hlk hQ dX4_has_59 rfl ⟨(by first | with_reducible rfl | simp [hx_b, hy_has, c6, c15, c25, c51]), rfl⟩
abbrev rX4_hasBy : Room := { frames := 2, cells := 0, slots := 0, locals := 45 }
set_option maxHeartbeats 1000000 in
set_option maxRecDepth 100000 in
theorem k_X4_hasBy (l : Launch) (D : va_G) (cI cC : ClassId) (xa xb xc xd xe xf xg xh : Nat × va_E) (tl : va_W) (g : Nat → Nat) (bi wh se pi : Nat → Int32) (dn al tp bd : Int32) (s0 : Nat) (ax : Int32) (o0 : Int32) (u0 : Int32) (v0 : Int32) (hs : s0 < 6) : hsI l yX4_hasBy wsX4_hasBy rX4_hasBy D vwCl (hsT cI cC) [.ref (g 8), .int (nI s0), .int ax, .int o0, .int u0, .int v0] (hmW xa xb xc xd xe xf xg xh tl g cI bi wh se pi dn al tp bd) (fun r w => r = hx_b (hy_hb bi s0 ax o0 u0 v0) ∧ w = (hmW xa xb xc xd xe xf xg xh tl g cI bi wh se pi dn al tp bd)) := by
  refine hsI.enter (cc := cX4_hasBy) (maxL := 6) (ret := (some .boolean)) (by decide) rfl (Nat.le_of_ble_eq_true rfl) ?_
  intro Pg En Ss Mi Ar Be Me Co AA QQ hQ h hr hlk
  refine hs_lv (lv' := [(0, .ref (g 8)), (1, .int (nI s0)), (2, .int ax), (3, .int o0), (4, .int u0), (5, .int v0)]) rfl ?_
  refine hv_iload_n h dX4_hasBy_0 2 rfl rfl ?_
  refine hv_if_ne h 17 dX4_hasBy_1 rfl (fun c1 => ?_) (fun c1 => ?_)
  · refine hv_iload_n h dX4_hasBy_17 2 rfl rfl ?_
    refine hv_iconst h (1) dX4_hasBy_18 (by decide) ?_
    refine hv_icmp_ne h 35 dX4_hasBy_19 rfl (fun c19 => ?_) (fun c19 => ?_)
    · refine hv_aload_n h dX4_hasBy_35 0 rfl rfl ?_
      refine hv_iload_n h dX4_hasBy_36 1 rfl rfl ?_
      refine hv_iload h dX4_hasBy_37 4 rfl ?_
      refine hv_iload h dX4_hasBy_39 5 rfl ?_
      refine hv_iload_n h dX4_hasBy_41 3 rfl rfl ?_
      refine hv_callp (ws' := (hmW xa xb xc xd xe xf xg xh tl g cI bi wh se pi dn al tp bd)) (v := hx_b (hy_has bi s0 u0 v0 o0)) h (hr_Vi (n := 4) (rest := []) h 8 rfl rfl (k_X4_has l D cI cC xa xb xc xd xe xf xg xh tl g bi wh se pi dn al tp bd s0 u0 v0 o0 (by omega)) w_methodLink_X4_26 w_instanceMethod_X4_has w_selects_X4_has w_initialized_X4 w_code_X4_has (by decide +kernel) rfl rfl rfl ⟨by decide, by decide⟩ rfl (Nat.le_of_ble_eq_true rfl) ⟨Nat.zero_le _, Nat.zero_le _⟩ dX4_hasBy_42) ?_
      exact hv_zret h hr hlk hQ dX4_hasBy_45 (hx_bnar _) ⟨(by first | with_reducible rfl | simp [hx_b, hy_hb, c1, c19]), rfl⟩
    · refine hv_aload_n h dX4_hasBy_22 0 rfl rfl ?_
      refine hv_iload_n h dX4_hasBy_23 1 rfl rfl ?_
      refine hv_iload h dX4_hasBy_24 4 rfl ?_
      refine hv_iload_n h dX4_hasBy_26 3 rfl rfl ?_
      refine hv_iload h dX4_hasBy_27 5 rfl ?_
      refine hv_callp (ws' := (hmW xa xb xc xd xe xf xg xh tl g cI bi wh se pi dn al tp bd)) (v := hx_b (hy_has bi s0 u0 o0 v0)) h (hr_Vi (n := 4) (rest := []) h 8 rfl rfl (k_X4_has l D cI cC xa xb xc xd xe xf xg xh tl g bi wh se pi dn al tp bd s0 u0 o0 v0 (by omega)) w_methodLink_X4_26 w_instanceMethod_X4_has w_selects_X4_has w_initialized_X4 w_code_X4_has (by decide +kernel) rfl rfl rfl ⟨by decide, by decide⟩ rfl (Nat.le_of_ble_eq_true rfl) ⟨Nat.zero_le _, Nat.zero_le _⟩ dX4_hasBy_29) ?_
      refine hv_goto h 45 dX4_hasBy_32 rfl ?_
      exact hv_zret h hr hlk hQ dX4_hasBy_45 (hx_bnar _) ⟨(by first | with_reducible rfl | simp [hx_b, hy_hb, c1, c19]), rfl⟩
  · refine hv_aload_n h dX4_hasBy_4 0 rfl rfl ?_
    refine hv_iload_n h dX4_hasBy_5 1 rfl rfl ?_
    refine hv_iload_n h dX4_hasBy_6 3 rfl rfl ?_
    refine hv_iload h dX4_hasBy_7 4 rfl ?_
    refine hv_iload h dX4_hasBy_9 5 rfl ?_
    refine hv_callp (ws' := (hmW xa xb xc xd xe xf xg xh tl g cI bi wh se pi dn al tp bd)) (v := hx_b (hy_has bi s0 o0 u0 v0)) h (hr_Vi (n := 4) (rest := []) h 8 rfl rfl (k_X4_has l D cI cC xa xb xc xd xe xf xg xh tl g bi wh se pi dn al tp bd s0 o0 u0 v0 (by omega)) w_methodLink_X4_26 w_instanceMethod_X4_has w_selects_X4_has w_initialized_X4 w_code_X4_has (by decide +kernel) rfl rfl rfl ⟨by decide, by decide⟩ rfl (Nat.le_of_ble_eq_true rfl) ⟨Nat.zero_le _, Nat.zero_le _⟩ dX4_hasBy_11) ?_
    refine hv_goto h 45 dX4_hasBy_14 rfl ?_
    exact hv_zret h hr hlk hQ dX4_hasBy_45 (hx_bnar _) ⟨(by first | with_reducible rfl | simp [hx_b, hy_hb, c1]), rfl⟩
abbrev rX4_clearDraft : Room := { frames := 0, cells := 0, slots := 0, locals := 0 }
set_option maxHeartbeats 1000000 in
set_option maxRecDepth 100000 in
theorem k_X4_clearDraft (l : Launch) (D : va_G) (cI cC : ClassId) (xa xb xc xd xe xf xg xh : Nat × va_E) (tl : va_W) (g : Nat → Nat) (bi wh se pi : Nat → Int32) (dn al tp bd : Int32)   : hsN l yX4_clearDraft wsX4_clearDraft rX4_clearDraft D vwCl (hsT cI cC) [.ref (g 8)] (hmW xa xb xc xd xe xf xg xh tl g cI bi wh se pi dn al tp bd) (fun w => w = (hmW xa xb xc xd xe xf xg xh tl g cI (hy_clr bi) wh se pi dn al tp bd)) := by
  refine hsN.enter (cc := cX4_clearDraft) (maxL := 2) (ret := none) (by decide) rfl (Nat.le_of_ble_eq_true rfl) ?_
  intro Pg En Ss Mi Ar Be Me Co AA QQ hQ h hr hlk
  refine hs_lv (lv' := [(0, .ref (g 8))]) rfl ?_
  refine hv_iconst h (nI 0) dX4_clearDraft_0 (by decide) ?_
  refine hv_istore_n h [(1, .int (nI 0)), (0, .ref (g 8))] dX4_clearDraft_1 rfl (by decide) rfl ?_
  have L2 : ∀ d2 i : Nat, i + d2 = 144 → ∀ (Fbi : Nat → Int32), Fbi = hx_it (fun k b => upd b (864 + k) 0) i bi → hsV Pg l En rX4_clearDraft Ss Mi Ar Be Me Co QQ 2 D vwCl AA Ss.heap 0 0 2 [(1, .int (nI i)), (0, .ref (g 8))] (hmW xa xb xc xd xe xf xg xh tl g cI Fbi wh se pi dn al tp bd) [] := by
    intro d2
    induction d2 with
    | zero =>
      intro i kq2 Fbi e_Fbi
      obtain rfl : i = 144 := by omega
      refine hv_iload_n h dX4_clearDraft_2 0 rfl rfl ?_
      refine hv_sipush h (nI 144) dX4_clearDraft_3 (by decide) ?_
      refine hv_icmp_ge h 26 dX4_clearDraft_6 rfl (fun c6 => ?_) (fun hc => absurd (Int32.le_refl _) hc)
      exact hv_vret h hr hlk hQ dX4_clearDraft_26 (by rw [e_Fbi]; rfl)
    | succ d2 ih2 =>
      intro i kq2 Fbi e_Fbi
      have hlt2 : i < 144 := by omega
      refine hv_iload_n h dX4_clearDraft_2 0 rfl rfl ?_
      refine hv_sipush h (nI 144) dX4_clearDraft_3 (by decide) ?_
      refine hv_icmp_ge h 26 dX4_clearDraft_6 rfl (fun hc => absurd hc (nI_ge hlt2 (by decide))) (fun c6 => ?_)
      refine hv_aload_n h dX4_clearDraft_9 1 rfl rfl ?_
      refine hv_get (C := RX4) (T := TX4) (N := 8) h 8 rfl rfl 0 (by decide) wu_X4 w_fieldLink_X4_7 (fun _ h9 => h9) rfl dX4_clearDraft_10 ?_
      refine hv_sipush h (864) dX4_clearDraft_13 (by decide) ?_
      refine hv_iload_n h dX4_clearDraft_16 0 rfl rfl ?_
      refine hw_iadd h (nI (864 + i)) dX4_clearDraft_17 (nI_add 864 i) ?_
      refine hv_iconst h (0) dX4_clearDraft_18 (by decide) ?_
      refine hv_iast (ws' := (hmW xa xb xc xd xe xf xg xh tl g cI (upd Fbi (864 + i) 0) wh se pi dn al tp bd)) h 9 0 rfl rfl (vp_in_nI (by omega) (by decide)) dX4_clearDraft_19 (by rw [nI_clamp (by omega)]; rfl) ?_
      refine hv_iinc h (nI (i + 1)) [(1, .int (nI (i + 1))), (0, .ref (g 8))] dX4_clearDraft_20 0 rfl (hs_inc _) (by decide) rfl ?_
      refine hv_goto h 2 dX4_clearDraft_23 rfl ?_
      exact ih2 (i + 1) (by omega) _ (by rw [hx_it_s, ← e_Fbi]; try first | assumption | with_reducible rfl | (simp [c6]; done))
  exact L2 144 0 (by omega) _ rfl
abbrev rX4_put : Room := { frames := 0, cells := 0, slots := 0, locals := 0 }
set_option maxHeartbeats 1000000 in
set_option maxRecDepth 100000 in
theorem k_X4_put (l : Launch) (D : va_G) (cI cC : ClassId) (xa xb xc xd xe xf xg xh : Nat × va_E) (tl : va_W) (g : Nat → Nat) (bi wh se pi : Nat → Int32) (dn al tp bd : Int32) (x0 : Nat) (y0 : Nat) (z0 : Int32) (hx0 : x0 < 12) (hy0 : y0 < 12) : hsN l yX4_put wsX4_put rX4_put D vwCl (hsT cI cC) [.ref (g 8), .int (nI x0), .int (nI y0), .int z0] (hmW xa xb xc xd xe xf xg xh tl g cI bi wh se pi dn al tp bd) (fun w => w = (hmW xa xb xc xd xe xf xg xh tl g cI (hy_put bi x0 y0 z0) wh se pi dn al tp bd)) := by
  refine hsN.enter (cc := cX4_put) (maxL := 4) (ret := none) (by decide) rfl (Nat.le_of_ble_eq_true rfl) ?_
  intro Pg En Ss Mi Ar Be Me Co AA QQ hQ h hr hlk
  refine hs_lv (lv' := [(0, .ref (g 8)), (1, .int (nI x0)), (2, .int (nI y0)), (3, .int z0)]) rfl ?_
  refine hv_aload_n h dX4_put_0 0 rfl rfl ?_
  refine hv_get (C := RX4) (T := TX4) (N := 8) h 8 rfl rfl 0 (by decide) wu_X4 w_fieldLink_X4_7 (fun _ h9 => h9) rfl dX4_put_1 ?_
  refine hv_sipush h (864) dX4_put_4 (by decide) ?_
  refine hv_bipush h (12) dX4_put_7 (by decide) ?_
  refine hv_iload_n h dX4_put_9 1 rfl rfl ?_
  refine hw_imul h (nI (12 * x0)) dX4_put_10 (pk_mul 12 x0) ?_
  refine hw_iadd h (nI (864 + (12 * x0))) dX4_put_11 (nI_add 864 (12 * x0)) ?_
  refine hv_iload_n h dX4_put_12 2 rfl rfl ?_
  refine hw_iadd h (nI ((864 + (12 * x0)) + y0)) dX4_put_13 (nI_add (864 + (12 * x0)) y0) ?_
  refine hv_dup2 h dX4_put_14 rfl rfl ?_
  refine hv_iald (v := bi ((864 + (12 * x0)) + y0)) h 9 0 rfl rfl (vp_in_nI (by omega) (by decide)) (by rw [nI_clamp (by omega)]) dX4_put_15 ?_
  refine hv_iconst h (1) dX4_put_16 (by decide) ?_
  refine hv_iload_n h dX4_put_17 3 rfl rfl ?_
  refine hv_ishl h dX4_put_18 ?_
  refine hv_ior h dX4_put_19 ?_
  refine hv_iast (ws' := (hmW xa xb xc xd xe xf xg xh tl g cI (upd bi ((864 + (12 * x0)) + y0) ((bi ((864 + (12 * x0)) + y0)) ||| ((1 : Int32) <<< (z0 &&& 31)))) wh se pi dn al tp bd)) h 9 0 rfl rfl (vp_in_nI (by omega) (by decide)) dX4_put_20 (by rw [nI_clamp (by omega)]; rfl) ?_
  exact hv_vret h hr hlk hQ dX4_put_21 rfl
abbrev rX4_copy : Room := { frames := 0, cells := 0, slots := 0, locals := 0 }
set_option maxHeartbeats 1000000 in
set_option maxRecDepth 100000 in
theorem k_X4_copy (l : Launch) (D : va_G) (cI cC : ClassId) (xa xb xc xd xe xf xg xh : Nat × va_E) (tl : va_W) (g : Nat → Nat) (bi wh se pi : Nat → Int32) (dn al tp bd : Int32) (a0 : Nat) (b0 : Nat) (ha0 : a0 + 144 ≤ 4464) (hb0 : b0 + 144 ≤ 4464) : hsN l yX4_copy wsX4_copy rX4_copy D vwCl (hsT cI cC) [.ref (g 8), .int (nI a0), .int (nI b0)] (hmW xa xb xc xd xe xf xg xh tl g cI bi wh se pi dn al tp bd) (fun w => w = (hmW xa xb xc xd xe xf xg xh tl g cI (hy_cpy bi a0 b0) wh se pi dn al tp bd)) := by
  refine hsN.enter (cc := cX4_copy) (maxL := 4) (ret := none) (by decide) rfl (Nat.le_of_ble_eq_true rfl) ?_
  intro Pg En Ss Mi Ar Be Me Co AA QQ hQ h hr hlk
  refine hs_lv (lv' := [(0, .ref (g 8)), (1, .int (nI a0)), (2, .int (nI b0))]) rfl ?_
  refine hv_iconst h (nI 0) dX4_copy_0 (by decide) ?_
  refine hv_istore_n h [(3, .int (nI 0)), (0, .ref (g 8)), (1, .int (nI a0)), (2, .int (nI b0))] dX4_copy_1 rfl (by decide) rfl ?_
  have L2 : ∀ d2 i : Nat, i + d2 = 144 → ∀ (Fbi : Nat → Int32), Fbi = hx_it (fun k b => upd b (b0 + k) (b (a0 + k))) i bi → hsV Pg l En rX4_copy Ss Mi Ar Be Me Co QQ 4 D vwCl AA Ss.heap 0 0 2 [(3, .int (nI i)), (0, .ref (g 8)), (1, .int (nI a0)), (2, .int (nI b0))] (hmW xa xb xc xd xe xf xg xh tl g cI Fbi wh se pi dn al tp bd) [] := by
    intro d2
    induction d2 with
    | zero =>
      intro i kq2 Fbi e_Fbi
      obtain rfl : i = 144 := by omega
      refine hv_iload_n h dX4_copy_2 0 rfl rfl ?_
      refine hv_sipush h (nI 144) dX4_copy_3 (by decide) ?_
      refine hv_icmp_ge h 31 dX4_copy_6 rfl (fun c6 => ?_) (fun hc => absurd (Int32.le_refl _) hc)
      exact hv_vret h hr hlk hQ dX4_copy_31 (by rw [e_Fbi]; rfl)
    | succ d2 ih2 =>
      intro i kq2 Fbi e_Fbi
      have hlt2 : i < 144 := by omega
      refine hv_iload_n h dX4_copy_2 0 rfl rfl ?_
      refine hv_sipush h (nI 144) dX4_copy_3 (by decide) ?_
      refine hv_icmp_ge h 31 dX4_copy_6 rfl (fun hc => absurd hc (nI_ge hlt2 (by decide))) (fun c6 => ?_)
      refine hv_aload_n h dX4_copy_9 1 rfl rfl ?_
      refine hv_get (C := RX4) (T := TX4) (N := 8) h 8 rfl rfl 0 (by decide) wu_X4 w_fieldLink_X4_7 (fun _ h9 => h9) rfl dX4_copy_10 ?_
      refine hv_iload_n h dX4_copy_13 3 rfl rfl ?_
      refine hv_iload_n h dX4_copy_14 0 rfl rfl ?_
      refine hw_iadd h (nI (b0 + i)) dX4_copy_15 (nI_add b0 i) ?_
      refine hv_aload_n h dX4_copy_16 1 rfl rfl ?_
      refine hv_get (C := RX4) (T := TX4) (N := 8) h 8 rfl rfl 0 (by decide) wu_X4 w_fieldLink_X4_7 (fun _ h9 => h9) rfl dX4_copy_17 ?_
      refine hv_iload_n h dX4_copy_20 2 rfl rfl ?_
      refine hv_iload_n h dX4_copy_21 0 rfl rfl ?_
      refine hw_iadd h (nI (a0 + i)) dX4_copy_22 (nI_add a0 i) ?_
      refine hv_iald (v := Fbi (a0 + i)) h 9 0 rfl rfl (vp_in_nI (by omega) (by decide)) (by rw [nI_clamp (by omega)]) dX4_copy_23 ?_
      refine hv_iast (ws' := (hmW xa xb xc xd xe xf xg xh tl g cI (upd Fbi (b0 + i) (Fbi (a0 + i))) wh se pi dn al tp bd)) h 9 0 rfl rfl (vp_in_nI (by omega) (by decide)) dX4_copy_24 (by rw [nI_clamp (by omega)]; rfl) ?_
      refine hv_iinc h (nI (i + 1)) [(3, .int (nI (i + 1))), (0, .ref (g 8)), (1, .int (nI a0)), (2, .int (nI b0))] dX4_copy_25 0 rfl (hs_inc _) (by decide) rfl ?_
      refine hv_goto h 2 dX4_copy_28 rfl ?_
      exact ih2 (i + 1) (by omega) _ (by rw [hx_it_s, ← e_Fbi]; try first | assumption | with_reducible rfl | (simp [c6]; done))
  exact L2 144 0 (by omega) _ rfl
abbrev rX4_count : Room := { frames := 0, cells := 0, slots := 0, locals := 0 }
set_option maxHeartbeats 1000000 in
set_option maxRecDepth 100000 in
theorem k_X4_count (l : Launch) (D : va_G) (cI cC : ClassId) (xa xb xc xd xe xf xg xh : Nat × va_E) (tl : va_W) (g : Nat → Nat) (bi wh se pi : Nat → Int32) (dn al tp bd : Int32) (s0 : Nat) (hs : s0 < 6) : hsI l yX4_count wsX4_count rX4_count D vwCl (hsT cI cC) [.ref (g 8), .int (nI s0)] (hmW xa xb xc xd xe xf xg xh tl g cI bi wh se pi dn al tp bd) (fun r w => r = hy_cnt bi s0 ∧ w = (hmW xa xb xc xd xe xf xg xh tl g cI bi wh se pi dn al tp bd)) := by
  refine hsI.enter (cc := cX4_count) (maxL := 4) (ret := (some .int)) (by decide) rfl (Nat.le_of_ble_eq_true rfl) ?_
  intro Pg En Ss Mi Ar Be Me Co AA QQ hQ h hr hlk
  refine hs_lv (lv' := [(0, .ref (g 8)), (1, .int (nI s0))]) rfl ?_
  refine hv_iconst h (0) dX4_count_0 (by decide) ?_
  refine hv_istore_n h [(2, .int 0), (0, .ref (g 8)), (1, .int (nI s0))] dX4_count_1 rfl (by decide) rfl ?_
  refine hv_iconst h (nI 0) dX4_count_2 (by decide) ?_
  refine hv_istore_n h [(3, .int (nI 0)), (2, .int 0), (0, .ref (g 8)), (1, .int (nI s0))] dX4_count_3 rfl (by decide) rfl ?_
  have L4 : ∀ d4 i : Nat, i + d4 = 1728 → ∀ (b2 : Int32), b2 = hx_it (fun k n => n + ((bi (144 * s0 + k / 12) >>> (nI (k % 12) &&& 31)) &&& 1)) i 0 → hsV Pg l En rX4_count Ss Mi Ar Be Me Co QQ 4 D vwCl AA Ss.heap 0 0 4 [(3, .int (nI i)), (2, .int b2), (0, .ref (g 8)), (1, .int (nI s0))] (hmW xa xb xc xd xe xf xg xh tl g cI bi wh se pi dn al tp bd) [] := by
    intro d4
    induction d4 with
    | zero =>
      intro i kq4 b2 e_b2
      obtain rfl : i = 1728 := by omega
      refine hv_iload_n h dX4_count_4 0 rfl rfl ?_
      refine hv_sipush h (nI 1728) dX4_count_5 (by decide) ?_
      refine hv_icmp_ge h 42 dX4_count_8 rfl (fun c8 => ?_) (fun hc => absurd (Int32.le_refl _) hc)
      refine hv_iload_n h dX4_count_42 1 rfl rfl ?_
      exact hv_iret h hr hlk hQ dX4_count_43 ⟨(by rw [e_b2]; rfl), rfl⟩
    | succ d4 ih4 =>
      intro i kq4 b2 e_b2
      have hlt4 : i < 1728 := by omega
      refine hv_iload_n h dX4_count_4 0 rfl rfl ?_
      refine hv_sipush h (nI 1728) dX4_count_5 (by decide) ?_
      refine hv_icmp_ge h 42 dX4_count_8 rfl (fun hc => absurd hc (nI_ge hlt4 (by decide))) (fun c8 => ?_)
      refine hv_iload_n h dX4_count_11 1 rfl rfl ?_
      refine hv_aload_n h dX4_count_12 2 rfl rfl ?_
      refine hv_get (C := RX4) (T := TX4) (N := 8) h 8 rfl rfl 0 (by decide) wu_X4 w_fieldLink_X4_7 (fun _ h9 => h9) rfl dX4_count_13 ?_
      refine hv_sipush h (144) dX4_count_16 (by decide) ?_
      refine hv_iload_n h dX4_count_19 3 rfl rfl ?_
      refine hw_imul h (nI (144 * s0)) dX4_count_20 (pk_mul 144 s0) ?_
      refine hv_iload_n h dX4_count_21 0 rfl rfl ?_
      refine hv_bipush h (12) dX4_count_22 (by decide) ?_
      refine hw_idiv h (nI (i / 12)) dX4_count_24 (by decide) (pk_div (by omega) (by decide) (by decide)) ?_
      refine hw_iadd h (nI ((144 * s0) + (i / 12))) dX4_count_25 (nI_add (144 * s0) (i / 12)) ?_
      refine hv_iald (v := bi ((144 * s0) + (i / 12))) h 9 0 rfl rfl (vp_in_nI (by omega) (by decide)) (by rw [nI_clamp (by omega)]) dX4_count_26 ?_
      refine hv_iload_n h dX4_count_27 0 rfl rfl ?_
      refine hv_bipush h (12) dX4_count_28 (by decide) ?_
      refine hw_irem h (nI (i % 12)) dX4_count_30 (by decide) (pk_rem (by omega) (by decide) (by decide)) ?_
      refine hv_ishr h dX4_count_31 ?_
      refine hv_iconst h (1) dX4_count_32 (by decide) ?_
      refine hv_iand h dX4_count_33 ?_
      refine hv_iadd h dX4_count_34 ?_
      refine hv_istore_n h [(2, .int (b2 + (((bi ((144 * s0) + (i / 12))) >>> ((nI (i % 12)) &&& 31)) &&& 1))), (3, .int (nI i)), (0, .ref (g 8)), (1, .int (nI s0))] dX4_count_35 rfl (by decide) rfl ?_
      refine hv_iinc h (nI (i + 1)) [(3, .int (nI (i + 1))), (2, .int (b2 + (((bi ((144 * s0) + (i / 12))) >>> ((nI (i % 12)) &&& 31)) &&& 1))), (0, .ref (g 8)), (1, .int (nI s0))] dX4_count_36 1 rfl (hs_inc _) (by decide) rfl ?_
      refine hv_goto h 4 dX4_count_39 rfl ?_
      exact ih4 (i + 1) (by omega) _ (by rw [hx_it_s, ← e_b2]; try first | assumption | with_reducible rfl | (simp [c8]; done))
  exact L4 1728 0 (by omega) _ rfl
abbrev rX4_isEdge : Room := { frames := 3, cells := 0, slots := 0, locals := 70 }
set_option maxHeartbeats 1000000 in
set_option maxRecDepth 100000 in
theorem k_X4_isEdge (l : Launch) (D : va_G) (cI cC : ClassId) (xa xb xc xd xe xf xg xh : Nat × va_E) (tl : va_W) (g : Nat → Nat) (bi wh se pi : Nat → Int32) (dn al tp bd : Int32) (s0 : Nat) (ax : Int32) (o0 : Int32) (u0 : Int32) (v0 : Int32) (hs : s0 < 6) : hsI l yX4_isEdge wsX4_isEdge rX4_isEdge D vwCl (hsT cI cC) [.ref (g 8), .int (nI s0), .int ax, .int o0, .int u0, .int v0] (hmW xa xb xc xd xe xf xg xh tl g cI bi wh se pi dn al tp bd) (fun r w => r = hx_b (hy_ed bi s0 ax o0 u0 v0) ∧ w = (hmW xa xb xc xd xe xf xg xh tl g cI bi wh se pi dn al tp bd)) := by
  refine hsI.enter (cc := cX4_isEdge) (maxL := 11) (ret := (some .boolean)) (by decide) rfl (Nat.le_of_ble_eq_true rfl) ?_
  intro Pg En Ss Mi Ar Be Me Co AA QQ hQ h hr hlk
  refine hs_lv (lv' := [(0, .ref (g 8)), (1, .int (nI s0)), (2, .int ax), (3, .int o0), (4, .int u0), (5, .int v0)]) rfl ?_
  refine hv_aload_n h dX4_isEdge_0 0 rfl rfl ?_
  refine hv_iload_n h dX4_isEdge_1 1 rfl rfl ?_
  refine hv_iload_n h dX4_isEdge_2 2 rfl rfl ?_
  refine hv_iload_n h dX4_isEdge_3 3 rfl rfl ?_
  refine hv_iload h dX4_isEdge_4 4 rfl ?_
  refine hv_iconst h (1) dX4_isEdge_6 (by decide) ?_
  refine hv_isub h dX4_isEdge_7 ?_
  refine hv_iload h dX4_isEdge_8 5 rfl ?_
  refine hv_iconst h (1) dX4_isEdge_10 (by decide) ?_
  refine hv_isub h dX4_isEdge_11 ?_
  refine hv_callp (ws' := (hmW xa xb xc xd xe xf xg xh tl g cI bi wh se pi dn al tp bd)) (v := hx_b (hy_hb bi s0 ax o0 (u0 - 1) (v0 - 1))) h (hr_Vi (n := 5) (rest := []) h 8 rfl rfl (k_X4_hasBy l D cI cC xa xb xc xd xe xf xg xh tl g bi wh se pi dn al tp bd s0 ax o0 (u0 - 1) (v0 - 1) (by omega)) w_methodLink_X4_66 w_instanceMethod_X4_hasBy w_selects_X4_hasBy w_initialized_X4 w_code_X4_hasBy (by decide +kernel) rfl rfl rfl ⟨by decide, by decide⟩ rfl (Nat.le_of_ble_eq_true rfl) ⟨Nat.zero_le _, Nat.zero_le _⟩ dX4_isEdge_12) ?_
  refine hv_istore h [(6, .int (hx_b (hy_hb bi s0 ax o0 (u0 - 1) (v0 - 1)))), (0, .ref (g 8)), (1, .int (nI s0)), (2, .int ax), (3, .int o0), (4, .int u0), (5, .int v0)] dX4_isEdge_15 (by decide) rfl ?_
  refine hv_aload_n h dX4_isEdge_17 1 rfl rfl ?_
  refine hv_iload_n h dX4_isEdge_18 2 rfl rfl ?_
  refine hv_iload_n h dX4_isEdge_19 3 rfl rfl ?_
  refine hv_iload_n h dX4_isEdge_20 4 rfl rfl ?_
  refine hv_iload h dX4_isEdge_21 5 rfl ?_
  refine hv_iload h dX4_isEdge_23 6 rfl ?_
  refine hv_iconst h (1) dX4_isEdge_25 (by decide) ?_
  refine hv_isub h dX4_isEdge_26 ?_
  refine hv_callp (ws' := (hmW xa xb xc xd xe xf xg xh tl g cI bi wh se pi dn al tp bd)) (v := hx_b (hy_hb bi s0 ax o0 u0 (v0 - 1))) h (hr_Vi (n := 5) (rest := []) h 8 rfl rfl (k_X4_hasBy l D cI cC xa xb xc xd xe xf xg xh tl g bi wh se pi dn al tp bd s0 ax o0 u0 (v0 - 1) (by omega)) w_methodLink_X4_66 w_instanceMethod_X4_hasBy w_selects_X4_hasBy w_initialized_X4 w_code_X4_hasBy (by decide +kernel) rfl rfl rfl ⟨by decide, by decide⟩ rfl (Nat.le_of_ble_eq_true rfl) ⟨Nat.zero_le _, Nat.zero_le _⟩ dX4_isEdge_27) ?_
  refine hv_istore h [(7, .int (hx_b (hy_hb bi s0 ax o0 u0 (v0 - 1)))), (6, .int (hx_b (hy_hb bi s0 ax o0 (u0 - 1) (v0 - 1)))), (0, .ref (g 8)), (1, .int (nI s0)), (2, .int ax), (3, .int o0), (4, .int u0), (5, .int v0)] dX4_isEdge_30 (by decide) rfl ?_
  refine hv_aload_n h dX4_isEdge_32 2 rfl rfl ?_
  refine hv_iload_n h dX4_isEdge_33 3 rfl rfl ?_
  refine hv_iload_n h dX4_isEdge_34 4 rfl rfl ?_
  refine hv_iload_n h dX4_isEdge_35 5 rfl rfl ?_
  refine hv_iload h dX4_isEdge_36 6 rfl ?_
  refine hv_iconst h (1) dX4_isEdge_38 (by decide) ?_
  refine hv_isub h dX4_isEdge_39 ?_
  refine hv_iload h dX4_isEdge_40 7 rfl ?_
  refine hv_callp (ws' := (hmW xa xb xc xd xe xf xg xh tl g cI bi wh se pi dn al tp bd)) (v := hx_b (hy_hb bi s0 ax o0 (u0 - 1) v0)) h (hr_Vi (n := 5) (rest := []) h 8 rfl rfl (k_X4_hasBy l D cI cC xa xb xc xd xe xf xg xh tl g bi wh se pi dn al tp bd s0 ax o0 (u0 - 1) v0 (by omega)) w_methodLink_X4_66 w_instanceMethod_X4_hasBy w_selects_X4_hasBy w_initialized_X4 w_code_X4_hasBy (by decide +kernel) rfl rfl rfl ⟨by decide, by decide⟩ rfl (Nat.le_of_ble_eq_true rfl) ⟨Nat.zero_le _, Nat.zero_le _⟩ dX4_isEdge_42) ?_
  refine hv_istore h [(8, .int (hx_b (hy_hb bi s0 ax o0 (u0 - 1) v0))), (7, .int (hx_b (hy_hb bi s0 ax o0 u0 (v0 - 1)))), (6, .int (hx_b (hy_hb bi s0 ax o0 (u0 - 1) (v0 - 1)))), (0, .ref (g 8)), (1, .int (nI s0)), (2, .int ax), (3, .int o0), (4, .int u0), (5, .int v0)] dX4_isEdge_45 (by decide) rfl ?_
  refine hv_aload_n h dX4_isEdge_47 3 rfl rfl ?_
  refine hv_iload_n h dX4_isEdge_48 4 rfl rfl ?_
  refine hv_iload_n h dX4_isEdge_49 5 rfl rfl ?_
  refine hv_iload_n h dX4_isEdge_50 6 rfl rfl ?_
  refine hv_iload h dX4_isEdge_51 7 rfl ?_
  refine hv_iload h dX4_isEdge_53 8 rfl ?_
  refine hv_callp (ws' := (hmW xa xb xc xd xe xf xg xh tl g cI bi wh se pi dn al tp bd)) (v := hx_b (hy_hb bi s0 ax o0 u0 v0)) h (hr_Vi (n := 5) (rest := []) h 8 rfl rfl (k_X4_hasBy l D cI cC xa xb xc xd xe xf xg xh tl g bi wh se pi dn al tp bd s0 ax o0 u0 v0 (by omega)) w_methodLink_X4_66 w_instanceMethod_X4_hasBy w_selects_X4_hasBy w_initialized_X4 w_code_X4_hasBy (by decide +kernel) rfl rfl rfl ⟨by decide, by decide⟩ rfl (Nat.le_of_ble_eq_true rfl) ⟨Nat.zero_le _, Nat.zero_le _⟩ dX4_isEdge_55) ?_
  refine hv_istore h [(9, .int (hx_b (hy_hb bi s0 ax o0 u0 v0))), (8, .int (hx_b (hy_hb bi s0 ax o0 (u0 - 1) v0))), (7, .int (hx_b (hy_hb bi s0 ax o0 u0 (v0 - 1)))), (6, .int (hx_b (hy_hb bi s0 ax o0 (u0 - 1) (v0 - 1)))), (0, .ref (g 8)), (1, .int (nI s0)), (2, .int ax), (3, .int o0), (4, .int u0), (5, .int v0)] dX4_isEdge_58 (by decide) rfl ?_
  refine hv_iload h dX4_isEdge_60 3 rfl ?_
  refine hv_sel h 1 0 dX4_isEdge_62 rfl dX4_isEdge_65 (by decide) dX4_isEdge_66 rfl dX4_isEdge_69 (by decide) ?_
  refine hv_iload h dX4_isEdge_70 2 rfl ?_
  refine hv_sel h 1 0 dX4_isEdge_72 rfl dX4_isEdge_75 (by decide) dX4_isEdge_76 rfl dX4_isEdge_79 (by decide) ?_
  refine hv_iadd h dX4_isEdge_80 ?_
  refine hv_iload h dX4_isEdge_81 1 rfl ?_
  refine hv_sel h 1 0 dX4_isEdge_83 rfl dX4_isEdge_86 (by decide) dX4_isEdge_87 rfl dX4_isEdge_90 (by decide) ?_
  refine hv_iadd h dX4_isEdge_91 ?_
  refine hv_iload h dX4_isEdge_92 0 rfl ?_
  refine hv_sel h 1 0 dX4_isEdge_94 rfl dX4_isEdge_97 (by decide) dX4_isEdge_98 rfl dX4_isEdge_101 (by decide) ?_
  refine hv_iadd h dX4_isEdge_102 ?_
  refine hv_istore h [(10, .int ((((hx_s (hy_hb bi s0 ax o0 (u0 - 1) (v0 - 1)) 1 0) + (hx_s (hy_hb bi s0 ax o0 u0 (v0 - 1)) 1 0)) + (hx_s (hy_hb bi s0 ax o0 (u0 - 1) v0) 1 0)) + (hx_s (hy_hb bi s0 ax o0 u0 v0) 1 0))), (9, .int (hx_b (hy_hb bi s0 ax o0 u0 v0))), (8, .int (hx_b (hy_hb bi s0 ax o0 (u0 - 1) v0))), (7, .int (hx_b (hy_hb bi s0 ax o0 u0 (v0 - 1)))), (6, .int (hx_b (hy_hb bi s0 ax o0 (u0 - 1) (v0 - 1)))), (0, .ref (g 8)), (1, .int (nI s0)), (2, .int ax), (3, .int o0), (4, .int u0), (5, .int v0)] dX4_isEdge_103 (by decide) rfl ?_
  refine hv_iload h dX4_isEdge_105 0 rfl ?_
  refine hv_iconst h (1) dX4_isEdge_107 (by decide) ?_
  refine hv_icmp_eq h 130 dX4_isEdge_108 rfl (fun c108 => ?_) (fun c108 => ?_)
  · refine hv_iconst h (1) dX4_isEdge_130 (by decide) ?_
    refine hv_goto h 135 dX4_isEdge_131 rfl ?_
    exact hv_zret h hr hlk hQ dX4_isEdge_135 rfl ⟨(by rw [show hy_ed bi s0 ax o0 u0 v0 = true from by simp [hy_ed, c108]]; rfl), rfl⟩
  · refine hv_iload h dX4_isEdge_111 0 rfl ?_
    refine hv_iconst h (3) dX4_isEdge_113 (by decide) ?_
    refine hv_icmp_eq h 130 dX4_isEdge_114 rfl (fun c114 => ?_) (fun c114 => ?_)
    · refine hv_iconst h (1) dX4_isEdge_130 (by decide) ?_
      refine hv_goto h 135 dX4_isEdge_131 rfl ?_
      exact hv_zret h hr hlk hQ dX4_isEdge_135 rfl ⟨(by rw [show hy_ed bi s0 ax o0 u0 v0 = true from by simp [hy_ed, c108, c114]]; rfl), rfl⟩
    · refine hv_iload h dX4_isEdge_117 0 rfl ?_
      refine hv_iconst h (2) dX4_isEdge_119 (by decide) ?_
      refine hv_icmp_ne h 134 dX4_isEdge_120 rfl (fun c120 => ?_) (fun c120 => ?_)
      · refine hv_iconst h (0) dX4_isEdge_134 (by decide) ?_
        exact hv_zret h hr hlk hQ dX4_isEdge_135 rfl ⟨(by rw [show hy_ed bi s0 ax o0 u0 v0 = false from by simp [hy_ed, c108, c114, c120]]; rfl), rfl⟩
      · refine hv_iload h dX4_isEdge_123 4 rfl ?_
        refine hv_iload h dX4_isEdge_125 1 rfl ?_
        refine hv_icmp_ne h 134 dX4_isEdge_127 rfl (fun c127 => ?_) (fun c127 => ?_)
        · refine hv_iconst h (0) dX4_isEdge_134 (by decide) ?_
          exact hv_zret h hr hlk hQ dX4_isEdge_135 rfl ⟨(by rw [show hy_ed bi s0 ax o0 u0 v0 = false from by simp [hy_ed, c108, c114, c120, c127]]; rfl), rfl⟩
        · refine hv_iconst h (1) dX4_isEdge_130 (by decide) ?_
          refine hv_goto h 135 dX4_isEdge_131 rfl ?_
          exact hv_zret h hr hlk hQ dX4_isEdge_135 rfl ⟨(by rw [show hy_ed bi s0 ax o0 u0 v0 = true from by simp [hy_ed, c108, c114, c120, c127]]; rfl), rfl⟩
abbrev rX4_countAt : Room := { frames := 3, cells := 0, slots := 0, locals := 70 }
set_option maxHeartbeats 1000000 in
set_option maxRecDepth 100000 in
theorem k_X4_countAt (l : Launch) (D : va_G) (cI cC : ClassId) (xa xb xc xd xe xf xg xh : Nat × va_E) (tl : va_W) (g : Nat → Nat) (bi wh se pi : Nat → Int32) (dn al tp bd : Int32) (s0 : Nat) (ax : Int32) (w0 : Int32) (hs : s0 < 6) : hsI l yX4_countAt wsX4_countAt rX4_countAt D vwCl (hsT cI cC) [.ref (g 8), .int (nI s0), .int ax, .int w0] (hmW xa xb xc xd xe xf xg xh tl g cI bi wh se pi dn al tp bd) (fun r w => r = hy_at bi s0 ax w0 ∧ w = (hmW xa xb xc xd xe xf xg xh tl g cI bi wh se pi dn al tp bd)) := by
  refine hsI.enter (cc := cX4_countAt) (maxL := 6) (ret := (some .int)) (by decide) rfl (Nat.le_of_ble_eq_true rfl) ?_
  intro Pg En Ss Mi Ar Be Me Co AA QQ hQ h hr hlk
  refine hs_lv (lv' := [(0, .ref (g 8)), (1, .int (nI s0)), (2, .int ax), (3, .int w0)]) rfl ?_
  refine hv_iconst h (0) dX4_countAt_0 (by decide) ?_
  refine hv_istore h [(4, .int 0), (0, .ref (g 8)), (1, .int (nI s0)), (2, .int ax), (3, .int w0)] dX4_countAt_1 (by decide) rfl ?_
  refine hv_iconst h (nI 0) dX4_countAt_3 (by decide) ?_
  refine hv_istore h [(5, .int (nI 0)), (4, .int 0), (0, .ref (g 8)), (1, .int (nI s0)), (2, .int ax), (3, .int w0)] dX4_countAt_4 (by decide) rfl ?_
  have L6 : ∀ d6 k : Nat, k + d6 = 144 → ∀ (b4 : Int32), b4 = hx_it (fun k n => n + hx_s (hy_hb bi s0 ax w0 (nI (k / 12)) (nI (k % 12))) 1 0) k 0 → hsV Pg l En rX4_countAt Ss Mi Ar Be Me Co QQ 6 D vwCl AA Ss.heap 0 0 6 [(5, .int (nI k)), (4, .int b4), (0, .ref (g 8)), (1, .int (nI s0)), (2, .int ax), (3, .int w0)] (hmW xa xb xc xd xe xf xg xh tl g cI bi wh se pi dn al tp bd) [] := by
    intro d6
    induction d6 with
    | zero =>
      intro k kq6 b4 e_b4
      obtain rfl : k = 144 := by omega
      refine hv_iload h dX4_countAt_6 0 rfl ?_
      refine hv_sipush h (nI 144) dX4_countAt_8 (by decide) ?_
      refine hv_icmp_ge h 50 dX4_countAt_11 rfl (fun c11 => ?_) (fun hc => absurd (Int32.le_refl _) hc)
      refine hv_iload h dX4_countAt_50 1 rfl ?_
      exact hv_iret h hr hlk hQ dX4_countAt_52 ⟨(by rw [e_b4]; rfl), rfl⟩
    | succ d6 ih6 =>
      intro k kq6 b4 e_b4
      have hlt6 : k < 144 := by omega
      refine hv_iload h dX4_countAt_6 0 rfl ?_
      refine hv_sipush h (nI 144) dX4_countAt_8 (by decide) ?_
      refine hv_icmp_ge h 50 dX4_countAt_11 rfl (fun hc => absurd hc (nI_ge hlt6 (by decide))) (fun c11 => ?_)
      refine hv_iload h dX4_countAt_14 1 rfl ?_
      refine hv_aload_n h dX4_countAt_16 2 rfl rfl ?_
      refine hv_iload_n h dX4_countAt_17 3 rfl rfl ?_
      refine hv_iload_n h dX4_countAt_18 4 rfl rfl ?_
      refine hv_iload_n h dX4_countAt_19 5 rfl rfl ?_
      refine hv_iload h dX4_countAt_20 0 rfl ?_
      refine hv_bipush h (12) dX4_countAt_22 (by decide) ?_
      refine hw_idiv h (nI (k / 12)) dX4_countAt_24 (by decide) (pk_div (by omega) (by decide) (by decide)) ?_
      refine hv_iload h dX4_countAt_25 0 rfl ?_
      refine hv_bipush h (12) dX4_countAt_27 (by decide) ?_
      refine hw_irem h (nI (k % 12)) dX4_countAt_29 (by decide) (pk_rem (by omega) (by decide) (by decide)) ?_
      refine hv_callp (ws' := (hmW xa xb xc xd xe xf xg xh tl g cI bi wh se pi dn al tp bd)) (v := hx_b (hy_hb bi s0 ax w0 (nI (k / 12)) (nI (k % 12)))) h (hr_Vi (n := 5) (rest := [.int b4]) h 8 rfl rfl (k_X4_hasBy l D cI cC xa xb xc xd xe xf xg xh tl g bi wh se pi dn al tp bd s0 ax w0 (nI (k / 12)) (nI (k % 12)) (by omega)) w_methodLink_X4_66 w_instanceMethod_X4_hasBy w_selects_X4_hasBy w_initialized_X4 w_code_X4_hasBy (by decide +kernel) rfl rfl rfl ⟨by decide, by decide⟩ rfl (Nat.le_of_ble_eq_true rfl) ⟨Nat.zero_le _, Nat.zero_le _⟩ dX4_countAt_30) ?_
      refine hv_sel h 1 0 dX4_countAt_33 rfl dX4_countAt_36 (by decide) dX4_countAt_37 rfl dX4_countAt_40 (by decide) ?_
      refine hv_iadd h dX4_countAt_41 ?_
      refine hv_istore h [(4, .int (b4 + (hx_s (hy_hb bi s0 ax w0 (nI (k / 12)) (nI (k % 12))) 1 0))), (5, .int (nI k)), (0, .ref (g 8)), (1, .int (nI s0)), (2, .int ax), (3, .int w0)] dX4_countAt_42 (by decide) rfl ?_
      refine hv_iinc h (nI (k + 1)) [(5, .int (nI (k + 1))), (4, .int (b4 + (hx_s (hy_hb bi s0 ax w0 (nI (k / 12)) (nI (k % 12))) 1 0))), (0, .ref (g 8)), (1, .int (nI s0)), (2, .int ax), (3, .int w0)] dX4_countAt_44 1 rfl (hs_inc _) (by decide) rfl ?_
      refine hv_goto h 6 dX4_countAt_47 rfl ?_
      exact ih6 (k + 1) (by omega) _ (by rw [hx_it_s, ← e_b4]; try first | assumption | with_reducible rfl | (simp [c11]; done))
  exact L6 144 0 (by omega) _ rfl
abbrev rX4_depthOf : Room := { frames := 3, cells := 0, slots := 0, locals := 70 }
set_option maxHeartbeats 1000000 in
set_option maxRecDepth 100000 in
theorem k_X4_depthOf (l : Launch) (D : va_G) (cI cC : ClassId) (xa xb xc xd xe xf xg xh : Nat × va_E) (tl : va_W) (g : Nat → Nat) (bi wh se pi : Nat → Int32) (dn al tp bd : Int32) (s0 : Nat) (ax : Int32) (b0 : Int32) (u0 : Int32) (v0 : Int32) (hs : s0 < 6) : hsI l yX4_depthOf wsX4_depthOf rX4_depthOf D vwCl (hsT cI cC) [.ref (g 8), .int (nI s0), .int ax, .int b0, .int u0, .int v0] (hmW xa xb xc xd xe xf xg xh tl g cI bi wh se pi dn al tp bd) (fun r w => r = hy_dep bi s0 ax b0 u0 v0 ∧ w = (hmW xa xb xc xd xe xf xg xh tl g cI bi wh se pi dn al tp bd)) := by
  refine hsI.enter (cc := cX4_depthOf) (maxL := 7) (ret := (some .int)) (by decide) rfl (Nat.le_of_ble_eq_true rfl) ?_
  intro Pg En Ss Mi Ar Be Me Co AA QQ hQ h hr hlk
  refine hs_lv (lv' := [(0, .ref (g 8)), (1, .int (nI s0)), (2, .int ax), (3, .int b0), (4, .int u0), (5, .int v0)]) rfl ?_
  refine hv_iconst h (nI 0) dX4_depthOf_0 (by decide) ?_
  refine hv_istore h [(6, .int (nI 0)), (0, .ref (g 8)), (1, .int (nI s0)), (2, .int ax), (3, .int b0), (4, .int u0), (5, .int v0)] dX4_depthOf_1 (by decide) rfl ?_
  have L3 : ∀ d3 k : Nat, k + d3 = 12 → hx_fst (fun n => hy_hb bi s0 ax (if b0 = 0 then nI n else 11 - nI n) u0 v0) d3 k = hx_fst (fun n => hy_hb bi s0 ax (if b0 = 0 then nI n else 11 - nI n) u0 v0) 12 0 → hsV Pg l En rX4_depthOf Ss Mi Ar Be Me Co QQ 7 D vwCl AA Ss.heap 0 0 3 [(6, .int (nI k)), (0, .ref (g 8)), (1, .int (nI s0)), (2, .int ax), (3, .int b0), (4, .int u0), (5, .int v0)] (hmW xa xb xc xd xe xf xg xh tl g cI bi wh se pi dn al tp bd) [] := by
    intro d3
    induction d3 with
    | zero =>
      intro k kq3 gg
      obtain rfl : k = 12 := by omega
      refine hv_iload h dX4_depthOf_3 0 rfl ?_
      refine hv_bipush h (nI 12) dX4_depthOf_5 (by decide) ?_
      refine hv_icmp_ge h 43 dX4_depthOf_7 rfl (fun c7 => ?_) (fun hc => absurd (Int32.le_refl _) hc)
      refine hv_iload h dX4_depthOf_43 0 rfl ?_
      exact hv_iret h hr hlk hQ dX4_depthOf_45 ⟨(by unfold hy_dep; rw [← gg]; rfl), rfl⟩
    | succ d3 ih3 =>
      intro k kq3 gg
      have hlt3 : k < 12 := by omega
      refine hv_iload h dX4_depthOf_3 0 rfl ?_
      refine hv_bipush h (nI 12) dX4_depthOf_5 (by decide) ?_
      refine hv_icmp_ge h 43 dX4_depthOf_7 rfl (fun hc => absurd hc (nI_ge hlt3 (by decide))) (fun c7 => ?_)
      refine hv_aload_n h dX4_depthOf_10 1 rfl rfl ?_
      refine hv_iload_n h dX4_depthOf_11 2 rfl rfl ?_
      refine hv_iload_n h dX4_depthOf_12 3 rfl rfl ?_
      refine hv_iload_n h dX4_depthOf_13 4 rfl rfl ?_
      refine hv_if_eq h 25 dX4_depthOf_14 rfl (fun c14 => ?_) (fun c14 => ?_)
      · refine hv_iload h dX4_depthOf_25 0 rfl ?_
        refine hv_iload h dX4_depthOf_27 5 rfl ?_
        refine hv_iload h dX4_depthOf_29 6 rfl ?_
        refine hv_callp (ws' := (hmW xa xb xc xd xe xf xg xh tl g cI bi wh se pi dn al tp bd)) (v := hx_b (hy_hb bi s0 ax (nI k) u0 v0)) h (hr_Vi (n := 5) (rest := []) h 8 rfl rfl (k_X4_hasBy l D cI cC xa xb xc xd xe xf xg xh tl g bi wh se pi dn al tp bd s0 ax (nI k) u0 v0 (by omega)) w_methodLink_X4_66 w_instanceMethod_X4_hasBy w_selects_X4_hasBy w_initialized_X4 w_code_X4_hasBy (by decide +kernel) rfl rfl rfl ⟨by decide, by decide⟩ rfl (Nat.le_of_ble_eq_true rfl) ⟨Nat.zero_le _, Nat.zero_le _⟩ dX4_depthOf_31) ?_
        refine hv_bif_ne h 43 dX4_depthOf_34 rfl (fun c34 => ?_) (fun c34 => ?_)
        · refine hv_iload h dX4_depthOf_43 0 rfl ?_
          exact hv_iret h hr hlk hQ dX4_depthOf_45 ⟨(by unfold hy_dep; rw [← gg]; simp [hx_fst, c34, c14]), rfl⟩
        · refine hv_iinc h (nI (k + 1)) [(6, .int (nI (k + 1))), (0, .ref (g 8)), (1, .int (nI s0)), (2, .int ax), (3, .int b0), (4, .int u0), (5, .int v0)] dX4_depthOf_37 0 rfl (hs_inc _) (by decide) rfl ?_
          refine hv_goto h 3 dX4_depthOf_40 rfl ?_
          exact ih3 (k + 1) (by omega) (by simpa [hx_fst, c34, c14] using gg)
      · refine hv_bipush h (11) dX4_depthOf_17 (by decide) ?_
        refine hv_iload h dX4_depthOf_19 0 rfl ?_
        refine hv_isub h dX4_depthOf_21 ?_
        refine hv_goto h 27 dX4_depthOf_22 rfl ?_
        refine hv_iload h dX4_depthOf_27 5 rfl ?_
        refine hv_iload h dX4_depthOf_29 6 rfl ?_
        refine hv_callp (ws' := (hmW xa xb xc xd xe xf xg xh tl g cI bi wh se pi dn al tp bd)) (v := hx_b (hy_hb bi s0 ax (11 - (nI k)) u0 v0)) h (hr_Vi (n := 5) (rest := []) h 8 rfl rfl (k_X4_hasBy l D cI cC xa xb xc xd xe xf xg xh tl g bi wh se pi dn al tp bd s0 ax (11 - (nI k)) u0 v0 (by omega)) w_methodLink_X4_66 w_instanceMethod_X4_hasBy w_selects_X4_hasBy w_initialized_X4 w_code_X4_hasBy (by decide +kernel) rfl rfl rfl ⟨by decide, by decide⟩ rfl (Nat.le_of_ble_eq_true rfl) ⟨Nat.zero_le _, Nat.zero_le _⟩ dX4_depthOf_31) ?_
        refine hv_bif_ne h 43 dX4_depthOf_34 rfl (fun c34 => ?_) (fun c34 => ?_)
        · refine hv_iload h dX4_depthOf_43 0 rfl ?_
          exact hv_iret h hr hlk hQ dX4_depthOf_45 ⟨(by unfold hy_dep; rw [← gg]; simp [hx_fst, c34, c14]), rfl⟩
        · refine hv_iinc h (nI (k + 1)) [(6, .int (nI (k + 1))), (0, .ref (g 8)), (1, .int (nI s0)), (2, .int ax), (3, .int b0), (4, .int u0), (5, .int v0)] dX4_depthOf_37 0 rfl (hs_inc _) (by decide) rfl ?_
          refine hv_goto h 3 dX4_depthOf_40 rfl ?_
          exact ih3 (k + 1) (by omega) (by simpa [hx_fst, c34, c14] using gg)
  exact L3 12 0 (by omega) rfl
abbrev rX4_isEdgeAt : Room := { frames := 4, cells := 0, slots := 0, locals := 100 }
set_option maxHeartbeats 1000000 in
set_option maxRecDepth 100000 in
theorem k_X4_isEdgeAt (l : Launch) (D : va_G) (cI cC : ClassId) (xa xb xc xd xe xf xg xh : Nat × va_E) (tl : va_W) (g : Nat → Nat) (bi wh se pi : Nat → Int32) (dn al tp bd : Int32) (s0 : Nat) (ax : Int32) (u0 : Int32) (v0 : Int32) (x0 : Int32) (w0 : Int32) (hs : s0 < 6) : hsI l yX4_isEdgeAt wsX4_isEdgeAt rX4_isEdgeAt D vwCl (hsT cI cC) [.ref (g 8), .int (nI s0), .int ax, .int u0, .int v0, .int x0, .int w0] (hmW xa xb xc xd xe xf xg xh tl g cI bi wh se pi dn al tp bd) (fun r w => r = hx_b (hy_ea bi s0 ax u0 v0 x0 w0) ∧ w = (hmW xa xb xc xd xe xf xg xh tl g cI bi wh se pi dn al tp bd)) := by
  refine hsI.enter (cc := cX4_isEdgeAt) (maxL := 7) (ret := (some .boolean)) (by decide) rfl (Nat.le_of_ble_eq_true rfl) ?_
  intro Pg En Ss Mi Ar Be Me Co AA QQ hQ h hr hlk
  refine hs_lv (lv' := [(0, .ref (g 8)), (1, .int (nI s0)), (2, .int ax), (3, .int u0), (4, .int v0), (5, .int x0), (6, .int w0)]) rfl ?_
  refine hv_iload_n h dX4_isEdgeAt_0 2 rfl rfl ?_
  refine hv_if_ne h 35 dX4_isEdgeAt_1 rfl (fun c1 => ?_) (fun c1 => ?_)
  · refine hv_iload_n h dX4_isEdgeAt_35 2 rfl rfl ?_
    refine hv_iconst h (1) dX4_isEdgeAt_36 (by decide) ?_
    refine hv_icmp_ne h 71 dX4_isEdgeAt_37 rfl (fun c37 => ?_) (fun c37 => ?_)
    · refine hv_iload h dX4_isEdgeAt_71 5 rfl ?_
      refine hv_if_ne h 90 dX4_isEdgeAt_73 rfl (fun c73 => ?_) (fun c73 => ?_)
      · refine hv_aload_n h dX4_isEdgeAt_90 0 rfl rfl ?_
        refine hv_iload_n h dX4_isEdgeAt_91 1 rfl rfl ?_
        refine hv_iconst h (0) dX4_isEdgeAt_92 (by decide) ?_
        refine hv_iload_n h dX4_isEdgeAt_93 3 rfl rfl ?_
        refine hv_iload h dX4_isEdgeAt_94 4 rfl ?_
        refine hv_iload h dX4_isEdgeAt_96 6 rfl ?_
        refine hv_callp (ws' := (hmW xa xb xc xd xe xf xg xh tl g cI bi wh se pi dn al tp bd)) (v := hx_b (hy_ed bi s0 0 u0 v0 w0)) h (hr_Vi (n := 5) (rest := []) h 8 rfl rfl (k_X4_isEdge l D cI cC xa xb xc xd xe xf xg xh tl g bi wh se pi dn al tp bd s0 0 u0 v0 w0 (by omega)) w_methodLink_X4_70 w_instanceMethod_X4_isEdge w_selects_X4_isEdge w_initialized_X4 w_code_X4_isEdge (by decide +kernel) rfl rfl rfl ⟨by decide, by decide⟩ rfl (Nat.le_of_ble_eq_true rfl) ⟨Nat.zero_le _, Nat.zero_le _⟩ dX4_isEdgeAt_98) ?_
        exact hv_zret h hr hlk hQ dX4_isEdgeAt_101 (hx_bnar _) ⟨(by first | with_reducible rfl | simp [hx_b, hy_ea, c1, c37, c73]), rfl⟩
      · refine hv_aload_n h dX4_isEdgeAt_76 0 rfl rfl ?_
        refine hv_iload_n h dX4_isEdgeAt_77 1 rfl rfl ?_
        refine hv_iconst h (1) dX4_isEdgeAt_78 (by decide) ?_
        refine hv_iload h dX4_isEdgeAt_79 4 rfl ?_
        refine hv_iload_n h dX4_isEdgeAt_81 3 rfl rfl ?_
        refine hv_iload h dX4_isEdgeAt_82 6 rfl ?_
        refine hv_callp (ws' := (hmW xa xb xc xd xe xf xg xh tl g cI bi wh se pi dn al tp bd)) (v := hx_b (hy_ed bi s0 1 v0 u0 w0)) h (hr_Vi (n := 5) (rest := []) h 8 rfl rfl (k_X4_isEdge l D cI cC xa xb xc xd xe xf xg xh tl g bi wh se pi dn al tp bd s0 1 v0 u0 w0 (by omega)) w_methodLink_X4_70 w_instanceMethod_X4_isEdge w_selects_X4_isEdge w_initialized_X4 w_code_X4_isEdge (by decide +kernel) rfl rfl rfl ⟨by decide, by decide⟩ rfl (Nat.le_of_ble_eq_true rfl) ⟨Nat.zero_le _, Nat.zero_le _⟩ dX4_isEdgeAt_84) ?_
        refine hv_goto h 101 dX4_isEdgeAt_87 rfl ?_
        exact hv_zret h hr hlk hQ dX4_isEdgeAt_101 (hx_bnar _) ⟨(by first | with_reducible rfl | simp [hx_b, hy_ea, c1, c37, c73]), rfl⟩
    · refine hv_iload h dX4_isEdgeAt_40 5 rfl ?_
      refine hv_if_ne h 59 dX4_isEdgeAt_42 rfl (fun c42 => ?_) (fun c42 => ?_)
      · refine hv_aload_n h dX4_isEdgeAt_59 0 rfl rfl ?_
        refine hv_iload_n h dX4_isEdgeAt_60 1 rfl rfl ?_
        refine hv_iconst h (0) dX4_isEdgeAt_61 (by decide) ?_
        refine hv_iload_n h dX4_isEdgeAt_62 3 rfl rfl ?_
        refine hv_iload h dX4_isEdgeAt_63 6 rfl ?_
        refine hv_iload h dX4_isEdgeAt_65 4 rfl ?_
        refine hv_callp (ws' := (hmW xa xb xc xd xe xf xg xh tl g cI bi wh se pi dn al tp bd)) (v := hx_b (hy_ed bi s0 0 u0 w0 v0)) h (hr_Vi (n := 5) (rest := []) h 8 rfl rfl (k_X4_isEdge l D cI cC xa xb xc xd xe xf xg xh tl g bi wh se pi dn al tp bd s0 0 u0 w0 v0 (by omega)) w_methodLink_X4_70 w_instanceMethod_X4_isEdge w_selects_X4_isEdge w_initialized_X4 w_code_X4_isEdge (by decide +kernel) rfl rfl rfl ⟨by decide, by decide⟩ rfl (Nat.le_of_ble_eq_true rfl) ⟨Nat.zero_le _, Nat.zero_le _⟩ dX4_isEdgeAt_67) ?_
        exact hv_zret h hr hlk hQ dX4_isEdgeAt_70 (hx_bnar _) ⟨(by first | with_reducible rfl | simp [hx_b, hy_ea, c1, c37, c42]), rfl⟩
      · refine hv_aload_n h dX4_isEdgeAt_45 0 rfl rfl ?_
        refine hv_iload_n h dX4_isEdgeAt_46 1 rfl rfl ?_
        refine hv_iconst h (2) dX4_isEdgeAt_47 (by decide) ?_
        refine hv_iload h dX4_isEdgeAt_48 4 rfl ?_
        refine hv_iload_n h dX4_isEdgeAt_50 3 rfl rfl ?_
        refine hv_iload h dX4_isEdgeAt_51 6 rfl ?_
        refine hv_callp (ws' := (hmW xa xb xc xd xe xf xg xh tl g cI bi wh se pi dn al tp bd)) (v := hx_b (hy_ed bi s0 2 v0 u0 w0)) h (hr_Vi (n := 5) (rest := []) h 8 rfl rfl (k_X4_isEdge l D cI cC xa xb xc xd xe xf xg xh tl g bi wh se pi dn al tp bd s0 2 v0 u0 w0 (by omega)) w_methodLink_X4_70 w_instanceMethod_X4_isEdge w_selects_X4_isEdge w_initialized_X4 w_code_X4_isEdge (by decide +kernel) rfl rfl rfl ⟨by decide, by decide⟩ rfl (Nat.le_of_ble_eq_true rfl) ⟨Nat.zero_le _, Nat.zero_le _⟩ dX4_isEdgeAt_53) ?_
        refine hv_goto h 70 dX4_isEdgeAt_56 rfl ?_
        exact hv_zret h hr hlk hQ dX4_isEdgeAt_70 (hx_bnar _) ⟨(by first | with_reducible rfl | simp [hx_b, hy_ea, c1, c37, c42]), rfl⟩
  · refine hv_iload h dX4_isEdgeAt_4 5 rfl ?_
    refine hv_if_ne h 23 dX4_isEdgeAt_6 rfl (fun c6 => ?_) (fun c6 => ?_)
    · refine hv_aload_n h dX4_isEdgeAt_23 0 rfl rfl ?_
      refine hv_iload_n h dX4_isEdgeAt_24 1 rfl rfl ?_
      refine hv_iconst h (1) dX4_isEdgeAt_25 (by decide) ?_
      refine hv_iload_n h dX4_isEdgeAt_26 3 rfl rfl ?_
      refine hv_iload h dX4_isEdgeAt_27 6 rfl ?_
      refine hv_iload h dX4_isEdgeAt_29 4 rfl ?_
      refine hv_callp (ws' := (hmW xa xb xc xd xe xf xg xh tl g cI bi wh se pi dn al tp bd)) (v := hx_b (hy_ed bi s0 1 u0 w0 v0)) h (hr_Vi (n := 5) (rest := []) h 8 rfl rfl (k_X4_isEdge l D cI cC xa xb xc xd xe xf xg xh tl g bi wh se pi dn al tp bd s0 1 u0 w0 v0 (by omega)) w_methodLink_X4_70 w_instanceMethod_X4_isEdge w_selects_X4_isEdge w_initialized_X4 w_code_X4_isEdge (by decide +kernel) rfl rfl rfl ⟨by decide, by decide⟩ rfl (Nat.le_of_ble_eq_true rfl) ⟨Nat.zero_le _, Nat.zero_le _⟩ dX4_isEdgeAt_31) ?_
      exact hv_zret h hr hlk hQ dX4_isEdgeAt_34 (hx_bnar _) ⟨(by first | with_reducible rfl | simp [hx_b, hy_ea, c1, c6]), rfl⟩
    · refine hv_aload_n h dX4_isEdgeAt_9 0 rfl rfl ?_
      refine hv_iload_n h dX4_isEdgeAt_10 1 rfl rfl ?_
      refine hv_iconst h (2) dX4_isEdgeAt_11 (by decide) ?_
      refine hv_iload h dX4_isEdgeAt_12 4 rfl ?_
      refine hv_iload h dX4_isEdgeAt_14 6 rfl ?_
      refine hv_iload_n h dX4_isEdgeAt_16 3 rfl rfl ?_
      refine hv_callp (ws' := (hmW xa xb xc xd xe xf xg xh tl g cI bi wh se pi dn al tp bd)) (v := hx_b (hy_ed bi s0 2 v0 w0 u0)) h (hr_Vi (n := 5) (rest := []) h 8 rfl rfl (k_X4_isEdge l D cI cC xa xb xc xd xe xf xg xh tl g bi wh se pi dn al tp bd s0 2 v0 w0 u0 (by omega)) w_methodLink_X4_70 w_instanceMethod_X4_isEdge w_selects_X4_isEdge w_initialized_X4 w_code_X4_isEdge (by decide +kernel) rfl rfl rfl ⟨by decide, by decide⟩ rfl (Nat.le_of_ble_eq_true rfl) ⟨Nat.zero_le _, Nat.zero_le _⟩ dX4_isEdgeAt_17) ?_
      refine hv_goto h 34 dX4_isEdgeAt_20 rfl ?_
      exact hv_zret h hr hlk hQ dX4_isEdgeAt_34 (hx_bnar _) ⟨(by first | with_reducible rfl | simp [hx_b, hy_ea, c1, c6]), rfl⟩
abbrev rX4_strokeOf : Room := { frames := 5, cells := 0, slots := 0, locals := 126 }
set_option maxHeartbeats 1000000 in
set_option maxRecDepth 100000 in
theorem k_X4_strokeOf (l : Launch) (D : va_G) (cI cC : ClassId) (xa xb xc xd xe xf xg xh : Nat × va_E) (tl : va_W) (g : Nat → Nat) (bi wh se pi : Nat → Int32) (dn al tp bd : Int32) (s0 : Nat) (ax : Int32) (b0 : Int32) (u0 : Int32) (v0 : Int32) (x0 : Int32) (hs : s0 < 6) : hsI l yX4_strokeOf wsX4_strokeOf rX4_strokeOf D vwCl (hsT cI cC) [.ref (g 8), .int (nI s0), .int ax, .int b0, .int u0, .int v0, .int x0] (hmW xa xb xc xd xe xf xg xh tl g cI bi wh se pi dn al tp bd) (fun r w => r = hy_st bi s0 ax b0 u0 v0 x0 ∧ w = (hmW xa xb xc xd xe xf xg xh tl g cI bi wh se pi dn al tp bd)) := by
  refine hsI.enter (cc := cX4_strokeOf) (maxL := 10) (ret := (some .int)) (by decide) rfl (Nat.le_of_ble_eq_true rfl) ?_
  intro Pg En Ss Mi Ar Be Me Co AA QQ hQ h hr hlk
  refine hs_lv (lv' := [(0, .ref (g 8)), (1, .int (nI s0)), (2, .int ax), (3, .int b0), (4, .int u0), (5, .int v0), (6, .int x0)]) rfl ?_
  refine hv_iload h dX4_strokeOf_0 6 rfl ?_
  refine hv_if_ne h 21 dX4_strokeOf_2 rfl (fun c2 => ?_) (fun c2 => ?_)
  · refine hv_aload_n h dX4_strokeOf_21 0 rfl rfl ?_
    refine hv_iload_n h dX4_strokeOf_22 1 rfl rfl ?_
    refine hv_iload_n h dX4_strokeOf_23 2 rfl rfl ?_
    refine hv_iload_n h dX4_strokeOf_24 3 rfl rfl ?_
    refine hv_iload h dX4_strokeOf_25 4 rfl ?_
    refine hv_iload h dX4_strokeOf_27 5 rfl ?_
    refine hv_iconst h (1) dX4_strokeOf_29 (by decide) ?_
    refine hv_isub h dX4_strokeOf_30 ?_
    refine hv_callp (ws' := (hmW xa xb xc xd xe xf xg xh tl g cI bi wh se pi dn al tp bd)) (v := hy_dep bi s0 ax b0 u0 (v0 - 1)) h (hr_Vi (n := 5) (rest := []) h 8 rfl rfl (k_X4_depthOf l D cI cC xa xb xc xd xe xf xg xh tl g bi wh se pi dn al tp bd s0 ax b0 u0 (v0 - 1) (by omega)) w_methodLink_X4_99 w_instanceMethod_X4_depthOf w_selects_X4_depthOf w_initialized_X4 w_code_X4_depthOf (by decide +kernel) rfl rfl rfl ⟨by decide, by decide⟩ rfl (Nat.le_of_ble_eq_true rfl) ⟨Nat.zero_le _, Nat.zero_le _⟩ dX4_strokeOf_31) ?_
    refine hv_istore h [(7, .int (hy_dep bi s0 ax b0 u0 (v0 - 1))), (0, .ref (g 8)), (1, .int (nI s0)), (2, .int ax), (3, .int b0), (4, .int u0), (5, .int v0), (6, .int x0)] dX4_strokeOf_34 (by decide) rfl ?_
    refine hv_iload h dX4_strokeOf_36 0 rfl ?_
    refine hv_aload_n h dX4_strokeOf_38 1 rfl rfl ?_
    refine hv_iload_n h dX4_strokeOf_39 2 rfl rfl ?_
    refine hv_iload_n h dX4_strokeOf_40 3 rfl rfl ?_
    refine hv_iload_n h dX4_strokeOf_41 4 rfl rfl ?_
    refine hv_iload h dX4_strokeOf_42 5 rfl ?_
    refine hv_iload h dX4_strokeOf_44 6 rfl ?_
    refine hv_callp (ws' := (hmW xa xb xc xd xe xf xg xh tl g cI bi wh se pi dn al tp bd)) (v := hy_dep bi s0 ax b0 u0 v0) h (hr_Vi (n := 5) (rest := [.int (hy_dep bi s0 ax b0 u0 (v0 - 1))]) h 8 rfl rfl (k_X4_depthOf l D cI cC xa xb xc xd xe xf xg xh tl g bi wh se pi dn al tp bd s0 ax b0 u0 v0 (by omega)) w_methodLink_X4_99 w_instanceMethod_X4_depthOf w_selects_X4_depthOf w_initialized_X4 w_code_X4_depthOf (by decide +kernel) rfl rfl rfl ⟨by decide, by decide⟩ rfl (Nat.le_of_ble_eq_true rfl) ⟨Nat.zero_le _, Nat.zero_le _⟩ dX4_strokeOf_46) ?_
    refine hv_icmp_eq h 54 dX4_strokeOf_49 rfl (fun c49 => ?_) (fun c49 => ?_)
    · refine hv_iconst h (0) dX4_strokeOf_54 (by decide) ?_
      refine hv_istore h [(8, .int 0), (7, .int (hy_dep bi s0 ax b0 u0 (v0 - 1))), (0, .ref (g 8)), (1, .int (nI s0)), (2, .int ax), (3, .int b0), (4, .int u0), (5, .int v0), (6, .int x0)] dX4_strokeOf_55 (by decide) rfl ?_
      refine hv_iconst h (nI 0) dX4_strokeOf_57 (by decide) ?_
      refine hv_istore h [(9, .int (nI 0)), (8, .int 0), (7, .int (hy_dep bi s0 ax b0 u0 (v0 - 1))), (0, .ref (g 8)), (1, .int (nI s0)), (2, .int ax), (3, .int b0), (4, .int u0), (5, .int v0), (6, .int x0)] dX4_strokeOf_58 (by decide) rfl ?_
      have L60 : ∀ d60 k : Nat, k + d60 = 13 → ∀ (b8 : Int32), b8 = hx_it (fun k n => if hy_ea bi s0 ax u0 v0 x0 (nI k) = true then 1 else n) k 0 → hsV Pg l En rX4_strokeOf Ss Mi Ar Be Me Co QQ 10 D vwCl AA Ss.heap 0 0 60 [(9, .int (nI k)), (8, .int b8), (7, .int (hy_dep bi s0 ax b0 u0 (v0 - 1))), (0, .ref (g 8)), (1, .int (nI s0)), (2, .int ax), (3, .int b0), (4, .int u0), (5, .int v0), (6, .int x0)] (hmW xa xb xc xd xe xf xg xh tl g cI bi wh se pi dn al tp bd) [] := by
        intro d60
        induction d60 with
        | zero =>
          intro k kq60 b8 e_b8
          obtain rfl : k = 13 := by omega
          refine hv_iload h dX4_strokeOf_60 0 rfl ?_
          refine hv_bipush h (nI 12) dX4_strokeOf_62 (by decide) ?_
          refine hv_icmp_gt h 98 dX4_strokeOf_64 rfl (fun c64 => ?_) (fun hc => absurd (nI_lt (by decide) (by decide)) hc)
          refine hv_iload h dX4_strokeOf_98 1 rfl ?_
          exact hv_iret h hr hlk hQ dX4_strokeOf_100 ⟨(by rw [e_b8]; simp [hy_st, c2, c49]), rfl⟩
        | succ d60 ih60 =>
          intro k kq60 b8 e_b8
          have hlt60 : k < 13 := by omega
          refine hv_iload h dX4_strokeOf_60 0 rfl ?_
          refine hv_bipush h (nI 12) dX4_strokeOf_62 (by decide) ?_
          refine hv_icmp_gt h 98 dX4_strokeOf_64 rfl (fun hc => absurd hc (nI_nlt (Nat.le_of_lt_succ hlt60) (by decide))) (fun c64 => ?_)
          refine hv_aload_n h dX4_strokeOf_67 3 rfl rfl ?_
          refine hv_iload_n h dX4_strokeOf_68 4 rfl rfl ?_
          refine hv_iload_n h dX4_strokeOf_69 5 rfl rfl ?_
          refine hv_iload h dX4_strokeOf_70 7 rfl ?_
          refine hv_iload h dX4_strokeOf_72 8 rfl ?_
          refine hv_iload h dX4_strokeOf_74 9 rfl ?_
          refine hv_iload h dX4_strokeOf_76 0 rfl ?_
          refine hv_callp (ws' := (hmW xa xb xc xd xe xf xg xh tl g cI bi wh se pi dn al tp bd)) (v := hx_b (hy_ea bi s0 ax u0 v0 x0 (nI k))) h (hr_Vi (n := 6) (rest := []) h 8 rfl rfl (k_X4_isEdgeAt l D cI cC xa xb xc xd xe xf xg xh tl g bi wh se pi dn al tp bd s0 ax u0 v0 x0 (nI k) (by omega)) w_methodLink_X4_103 w_instanceMethod_X4_isEdgeAt w_selects_X4_isEdgeAt w_initialized_X4 w_code_X4_isEdgeAt (by decide +kernel) rfl rfl rfl ⟨by decide, by decide⟩ rfl (Nat.le_of_ble_eq_true rfl) ⟨Nat.zero_le _, Nat.zero_le _⟩ dX4_strokeOf_78) ?_
          refine hv_bif_eq h 88 dX4_strokeOf_81 rfl (fun c81 => ?_) (fun c81 => ?_)
          · refine hv_iload h dX4_strokeOf_88 1 rfl ?_
            refine hv_istore h [(8, .int b8), (9, .int (nI k)), (7, .int (hy_dep bi s0 ax b0 u0 (v0 - 1))), (0, .ref (g 8)), (1, .int (nI s0)), (2, .int ax), (3, .int b0), (4, .int u0), (5, .int v0), (6, .int x0)] dX4_strokeOf_90 (by decide) rfl ?_
            refine hv_iinc h (nI (k + 1)) [(9, .int (nI (k + 1))), (8, .int b8), (7, .int (hy_dep bi s0 ax b0 u0 (v0 - 1))), (0, .ref (g 8)), (1, .int (nI s0)), (2, .int ax), (3, .int b0), (4, .int u0), (5, .int v0), (6, .int x0)] dX4_strokeOf_92 1 rfl (hs_inc _) (by decide) rfl ?_
            refine hv_goto h 60 dX4_strokeOf_95 rfl ?_
            exact ih60 (k + 1) (by omega) _ (by rw [hx_it_s, ← e_b8, c81]; rfl)
          · refine hv_iconst h (1) dX4_strokeOf_84 (by decide) ?_
            refine hv_goto h 90 dX4_strokeOf_85 rfl ?_
            refine hv_istore h [(8, .int 1), (9, .int (nI k)), (7, .int (hy_dep bi s0 ax b0 u0 (v0 - 1))), (0, .ref (g 8)), (1, .int (nI s0)), (2, .int ax), (3, .int b0), (4, .int u0), (5, .int v0), (6, .int x0)] dX4_strokeOf_90 (by decide) rfl ?_
            refine hv_iinc h (nI (k + 1)) [(9, .int (nI (k + 1))), (8, .int 1), (7, .int (hy_dep bi s0 ax b0 u0 (v0 - 1))), (0, .ref (g 8)), (1, .int (nI s0)), (2, .int ax), (3, .int b0), (4, .int u0), (5, .int v0), (6, .int x0)] dX4_strokeOf_92 1 rfl (hs_inc _) (by decide) rfl ?_
            refine hv_goto h 60 dX4_strokeOf_95 rfl ?_
            exact ih60 (k + 1) (by omega) _ (by rw [hx_it_s, ← e_b8, c81]; rfl)
      exact L60 13 0 (by omega) _ rfl
    · refine hv_iconst h (2) dX4_strokeOf_52 (by decide) ?_
      exact hv_iret h hr hlk hQ dX4_strokeOf_53 ⟨(by simp [hy_st, c2, c49]), rfl⟩
  · refine hv_aload_n h dX4_strokeOf_5 0 rfl rfl ?_
    refine hv_iload_n h dX4_strokeOf_6 1 rfl rfl ?_
    refine hv_iload_n h dX4_strokeOf_7 2 rfl rfl ?_
    refine hv_iload_n h dX4_strokeOf_8 3 rfl rfl ?_
    refine hv_iload h dX4_strokeOf_9 4 rfl ?_
    refine hv_iconst h (1) dX4_strokeOf_11 (by decide) ?_
    refine hv_isub h dX4_strokeOf_12 ?_
    refine hv_iload h dX4_strokeOf_13 5 rfl ?_
    refine hv_callp (ws' := (hmW xa xb xc xd xe xf xg xh tl g cI bi wh se pi dn al tp bd)) (v := hy_dep bi s0 ax b0 (u0 - 1) v0) h (hr_Vi (n := 5) (rest := []) h 8 rfl rfl (k_X4_depthOf l D cI cC xa xb xc xd xe xf xg xh tl g bi wh se pi dn al tp bd s0 ax b0 (u0 - 1) v0 (by omega)) w_methodLink_X4_99 w_instanceMethod_X4_depthOf w_selects_X4_depthOf w_initialized_X4 w_code_X4_depthOf (by decide +kernel) rfl rfl rfl ⟨by decide, by decide⟩ rfl (Nat.le_of_ble_eq_true rfl) ⟨Nat.zero_le _, Nat.zero_le _⟩ dX4_strokeOf_15) ?_
    refine hv_goto h 34 dX4_strokeOf_18 rfl ?_
    refine hv_istore h [(7, .int (hy_dep bi s0 ax b0 (u0 - 1) v0)), (0, .ref (g 8)), (1, .int (nI s0)), (2, .int ax), (3, .int b0), (4, .int u0), (5, .int v0), (6, .int x0)] dX4_strokeOf_34 (by decide) rfl ?_
    refine hv_iload h dX4_strokeOf_36 0 rfl ?_
    refine hv_aload_n h dX4_strokeOf_38 1 rfl rfl ?_
    refine hv_iload_n h dX4_strokeOf_39 2 rfl rfl ?_
    refine hv_iload_n h dX4_strokeOf_40 3 rfl rfl ?_
    refine hv_iload_n h dX4_strokeOf_41 4 rfl rfl ?_
    refine hv_iload h dX4_strokeOf_42 5 rfl ?_
    refine hv_iload h dX4_strokeOf_44 6 rfl ?_
    refine hv_callp (ws' := (hmW xa xb xc xd xe xf xg xh tl g cI bi wh se pi dn al tp bd)) (v := hy_dep bi s0 ax b0 u0 v0) h (hr_Vi (n := 5) (rest := [.int (hy_dep bi s0 ax b0 (u0 - 1) v0)]) h 8 rfl rfl (k_X4_depthOf l D cI cC xa xb xc xd xe xf xg xh tl g bi wh se pi dn al tp bd s0 ax b0 u0 v0 (by omega)) w_methodLink_X4_99 w_instanceMethod_X4_depthOf w_selects_X4_depthOf w_initialized_X4 w_code_X4_depthOf (by decide +kernel) rfl rfl rfl ⟨by decide, by decide⟩ rfl (Nat.le_of_ble_eq_true rfl) ⟨Nat.zero_le _, Nat.zero_le _⟩ dX4_strokeOf_46) ?_
    refine hv_icmp_eq h 54 dX4_strokeOf_49 rfl (fun c49 => ?_) (fun c49 => ?_)
    · refine hv_iconst h (0) dX4_strokeOf_54 (by decide) ?_
      refine hv_istore h [(8, .int 0), (7, .int (hy_dep bi s0 ax b0 (u0 - 1) v0)), (0, .ref (g 8)), (1, .int (nI s0)), (2, .int ax), (3, .int b0), (4, .int u0), (5, .int v0), (6, .int x0)] dX4_strokeOf_55 (by decide) rfl ?_
      refine hv_iconst h (nI 0) dX4_strokeOf_57 (by decide) ?_
      refine hv_istore h [(9, .int (nI 0)), (8, .int 0), (7, .int (hy_dep bi s0 ax b0 (u0 - 1) v0)), (0, .ref (g 8)), (1, .int (nI s0)), (2, .int ax), (3, .int b0), (4, .int u0), (5, .int v0), (6, .int x0)] dX4_strokeOf_58 (by decide) rfl ?_
      have L60 : ∀ d60 k : Nat, k + d60 = 13 → ∀ (b8 : Int32), b8 = hx_it (fun k n => if hy_ea bi s0 ax u0 v0 x0 (nI k) = true then 1 else n) k 0 → hsV Pg l En rX4_strokeOf Ss Mi Ar Be Me Co QQ 10 D vwCl AA Ss.heap 0 0 60 [(9, .int (nI k)), (8, .int b8), (7, .int (hy_dep bi s0 ax b0 (u0 - 1) v0)), (0, .ref (g 8)), (1, .int (nI s0)), (2, .int ax), (3, .int b0), (4, .int u0), (5, .int v0), (6, .int x0)] (hmW xa xb xc xd xe xf xg xh tl g cI bi wh se pi dn al tp bd) [] := by
        intro d60
        induction d60 with
        | zero =>
          intro k kq60 b8 e_b8
          obtain rfl : k = 13 := by omega
          refine hv_iload h dX4_strokeOf_60 0 rfl ?_
          refine hv_bipush h (nI 12) dX4_strokeOf_62 (by decide) ?_
          refine hv_icmp_gt h 98 dX4_strokeOf_64 rfl (fun c64 => ?_) (fun hc => absurd (nI_lt (by decide) (by decide)) hc)
          refine hv_iload h dX4_strokeOf_98 1 rfl ?_
          exact hv_iret h hr hlk hQ dX4_strokeOf_100 ⟨(by rw [e_b8]; simp [hy_st, c2, c49]), rfl⟩
        | succ d60 ih60 =>
          intro k kq60 b8 e_b8
          have hlt60 : k < 13 := by omega
          refine hv_iload h dX4_strokeOf_60 0 rfl ?_
          refine hv_bipush h (nI 12) dX4_strokeOf_62 (by decide) ?_
          refine hv_icmp_gt h 98 dX4_strokeOf_64 rfl (fun hc => absurd hc (nI_nlt (Nat.le_of_lt_succ hlt60) (by decide))) (fun c64 => ?_)
          refine hv_aload_n h dX4_strokeOf_67 3 rfl rfl ?_
          refine hv_iload_n h dX4_strokeOf_68 4 rfl rfl ?_
          refine hv_iload_n h dX4_strokeOf_69 5 rfl rfl ?_
          refine hv_iload h dX4_strokeOf_70 7 rfl ?_
          refine hv_iload h dX4_strokeOf_72 8 rfl ?_
          refine hv_iload h dX4_strokeOf_74 9 rfl ?_
          refine hv_iload h dX4_strokeOf_76 0 rfl ?_
          refine hv_callp (ws' := (hmW xa xb xc xd xe xf xg xh tl g cI bi wh se pi dn al tp bd)) (v := hx_b (hy_ea bi s0 ax u0 v0 x0 (nI k))) h (hr_Vi (n := 6) (rest := []) h 8 rfl rfl (k_X4_isEdgeAt l D cI cC xa xb xc xd xe xf xg xh tl g bi wh se pi dn al tp bd s0 ax u0 v0 x0 (nI k) (by omega)) w_methodLink_X4_103 w_instanceMethod_X4_isEdgeAt w_selects_X4_isEdgeAt w_initialized_X4 w_code_X4_isEdgeAt (by decide +kernel) rfl rfl rfl ⟨by decide, by decide⟩ rfl (Nat.le_of_ble_eq_true rfl) ⟨Nat.zero_le _, Nat.zero_le _⟩ dX4_strokeOf_78) ?_
          refine hv_bif_eq h 88 dX4_strokeOf_81 rfl (fun c81 => ?_) (fun c81 => ?_)
          · refine hv_iload h dX4_strokeOf_88 1 rfl ?_
            refine hv_istore h [(8, .int b8), (9, .int (nI k)), (7, .int (hy_dep bi s0 ax b0 (u0 - 1) v0)), (0, .ref (g 8)), (1, .int (nI s0)), (2, .int ax), (3, .int b0), (4, .int u0), (5, .int v0), (6, .int x0)] dX4_strokeOf_90 (by decide) rfl ?_
            refine hv_iinc h (nI (k + 1)) [(9, .int (nI (k + 1))), (8, .int b8), (7, .int (hy_dep bi s0 ax b0 (u0 - 1) v0)), (0, .ref (g 8)), (1, .int (nI s0)), (2, .int ax), (3, .int b0), (4, .int u0), (5, .int v0), (6, .int x0)] dX4_strokeOf_92 1 rfl (hs_inc _) (by decide) rfl ?_
            refine hv_goto h 60 dX4_strokeOf_95 rfl ?_
            exact ih60 (k + 1) (by omega) _ (by rw [hx_it_s, ← e_b8, c81]; rfl)
          · refine hv_iconst h (1) dX4_strokeOf_84 (by decide) ?_
            refine hv_goto h 90 dX4_strokeOf_85 rfl ?_
            refine hv_istore h [(8, .int 1), (9, .int (nI k)), (7, .int (hy_dep bi s0 ax b0 (u0 - 1) v0)), (0, .ref (g 8)), (1, .int (nI s0)), (2, .int ax), (3, .int b0), (4, .int u0), (5, .int v0), (6, .int x0)] dX4_strokeOf_90 (by decide) rfl ?_
            refine hv_iinc h (nI (k + 1)) [(9, .int (nI (k + 1))), (8, .int 1), (7, .int (hy_dep bi s0 ax b0 (u0 - 1) v0)), (0, .ref (g 8)), (1, .int (nI s0)), (2, .int ax), (3, .int b0), (4, .int u0), (5, .int v0), (6, .int x0)] dX4_strokeOf_92 1 rfl (hs_inc _) (by decide) rfl ?_
            refine hv_goto h 60 dX4_strokeOf_95 rfl ?_
            exact ih60 (k + 1) (by omega) _ (by rw [hx_it_s, ← e_b8, c81]; rfl)
      exact L60 13 0 (by omega) _ rfl
    · refine hv_iconst h (2) dX4_strokeOf_52 (by decide) ?_
      exact hv_iret h hr hlk hQ dX4_strokeOf_53 ⟨(by simp [hy_st, c2, c49]), rfl⟩
