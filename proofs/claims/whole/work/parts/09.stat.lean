abbrev rX0_isSolid : Room := { frames := 0, cells := 0, slots := 0, locals := 0 }
set_option maxHeartbeats 1000000 in
set_option maxRecDepth 100000 in
theorem k_X0_isSolid (l : Launch) (D : va_G) (cI cC : ClassId) (ws : va_W) (s0 : Int32) : hsI l yX0_isSolid wsX0_isSolid rX0_isSolid D vwCl (hsT cI cC) [.int s0] ws (fun r w => r = hx_b (hx_in s0 6) ∧ w = ws) := by
  refine hsI.enter (cc := cX0_isSolid) (maxL := 1) (ret := (some .boolean)) (by decide) rfl (Nat.le_of_ble_eq_true rfl) ?_
  intro Pg En Ss Mi Ar Be Me Co AA QQ hQ h hr hlk
  refine hs_lv (lv' := [(0, .int s0)]) rfl ?_
  refine hv_iload_n h dX0_isSolid_0 0 rfl rfl ?_
  refine hv_if_lt h 14 dX0_isSolid_1 rfl (fun c1 => ?_) (fun c1 => ?_)
  · refine hv_iconst h (0) dX0_isSolid_14 (by decide) ?_
    exact hv_zret h hr hlk hQ dX0_isSolid_15 rfl ⟨(by first | with_reducible rfl | simp [hx_b, hx_in, c1]), rfl⟩
  · refine hv_iload_n h dX0_isSolid_4 0 rfl rfl ?_
    refine hv_bipush h (6) dX0_isSolid_5 (by decide) ?_
    refine hv_icmp_ge h 14 dX0_isSolid_7 rfl (fun c7 => ?_) (fun c7 => ?_)
    · refine hv_iconst h (0) dX0_isSolid_14 (by decide) ?_
      exact hv_zret h hr hlk hQ dX0_isSolid_15 rfl ⟨(by first | with_reducible rfl | simp [hx_b, hx_in, c1, c7]), rfl⟩
    · refine hv_iconst h (1) dX0_isSolid_10 (by decide) ?_
      refine hv_goto h 15 dX0_isSolid_11 rfl ?_
      exact hv_zret h hr hlk hQ dX0_isSolid_15 rfl ⟨(by first | with_reducible rfl | simp [hx_b, hx_in, c1, c7]), rfl⟩
abbrev rX0_isAxis : Room := { frames := 0, cells := 0, slots := 0, locals := 0 }
set_option maxHeartbeats 1000000 in
set_option maxRecDepth 100000 in
theorem k_X0_isAxis (l : Launch) (D : va_G) (cI cC : ClassId) (ws : va_W) (s0 : Int32) : hsI l yX0_isAxis wsX0_isAxis rX0_isAxis D vwCl (hsT cI cC) [.int s0] ws (fun r w => r = hx_b (hx_in s0 3) ∧ w = ws) := by
  refine hsI.enter (cc := cX0_isAxis) (maxL := 1) (ret := (some .boolean)) (by decide) rfl (Nat.le_of_ble_eq_true rfl) ?_
  intro Pg En Ss Mi Ar Be Me Co AA QQ hQ h hr hlk
  refine hs_lv (lv' := [(0, .int s0)]) rfl ?_
  refine hv_iload_n h dX0_isAxis_0 0 rfl rfl ?_
  refine hv_if_lt h 13 dX0_isAxis_1 rfl (fun c1 => ?_) (fun c1 => ?_)
  · refine hv_iconst h (0) dX0_isAxis_13 (by decide) ?_
    exact hv_zret h hr hlk hQ dX0_isAxis_14 rfl ⟨(by first | with_reducible rfl | simp [hx_b, hx_in, c1]), rfl⟩
  · refine hv_iload_n h dX0_isAxis_4 0 rfl rfl ?_
    refine hv_iconst h (3) dX0_isAxis_5 (by decide) ?_
    refine hv_icmp_ge h 13 dX0_isAxis_6 rfl (fun c6 => ?_) (fun c6 => ?_)
    · refine hv_iconst h (0) dX0_isAxis_13 (by decide) ?_
      exact hv_zret h hr hlk hQ dX0_isAxis_14 rfl ⟨(by first | with_reducible rfl | simp [hx_b, hx_in, c1, c6]), rfl⟩
    · refine hv_iconst h (1) dX0_isAxis_9 (by decide) ?_
      refine hv_goto h 14 dX0_isAxis_10 rfl ?_
      exact hv_zret h hr hlk hQ dX0_isAxis_14 rfl ⟨(by first | with_reducible rfl | simp [hx_b, hx_in, c1, c6]), rfl⟩
abbrev rX0_isCoordinate : Room := { frames := 0, cells := 0, slots := 0, locals := 0 }
set_option maxHeartbeats 1000000 in
set_option maxRecDepth 100000 in
theorem k_X0_isCoordinate (l : Launch) (D : va_G) (cI cC : ClassId) (ws : va_W) (s0 : Int32) : hsI l yX0_isCoordinate wsX0_isCoordinate rX0_isCoordinate D vwCl (hsT cI cC) [.int s0] ws (fun r w => r = hx_b (hx_in s0 12) ∧ w = ws) := by
  refine hsI.enter (cc := cX0_isCoordinate) (maxL := 1) (ret := (some .boolean)) (by decide) rfl (Nat.le_of_ble_eq_true rfl) ?_
  intro Pg En Ss Mi Ar Be Me Co AA QQ hQ h hr hlk
  refine hs_lv (lv' := [(0, .int s0)]) rfl ?_
  refine hv_iload_n h dX0_isCoordinate_0 0 rfl rfl ?_
  refine hv_if_lt h 14 dX0_isCoordinate_1 rfl (fun c1 => ?_) (fun c1 => ?_)
  · refine hv_iconst h (0) dX0_isCoordinate_14 (by decide) ?_
    exact hv_zret h hr hlk hQ dX0_isCoordinate_15 rfl ⟨(by first | with_reducible rfl | simp [hx_b, hx_in, c1]), rfl⟩
  · refine hv_iload_n h dX0_isCoordinate_4 0 rfl rfl ?_
    refine hv_bipush h (12) dX0_isCoordinate_5 (by decide) ?_
    refine hv_icmp_ge h 14 dX0_isCoordinate_7 rfl (fun c7 => ?_) (fun c7 => ?_)
    · refine hv_iconst h (0) dX0_isCoordinate_14 (by decide) ?_
      exact hv_zret h hr hlk hQ dX0_isCoordinate_15 rfl ⟨(by first | with_reducible rfl | simp [hx_b, hx_in, c1, c7]), rfl⟩
    · refine hv_iconst h (1) dX0_isCoordinate_10 (by decide) ?_
      refine hv_goto h 15 dX0_isCoordinate_11 rfl ?_
      exact hv_zret h hr hlk hQ dX0_isCoordinate_15 rfl ⟨(by first | with_reducible rfl | simp [hx_b, hx_in, c1, c7]), rfl⟩
abbrev rX0_isPlane : Room := { frames := 0, cells := 0, slots := 0, locals := 0 }
set_option maxHeartbeats 1000000 in
set_option maxRecDepth 100000 in
theorem k_X0_isPlane (l : Launch) (D : va_G) (cI cC : ClassId) (ws : va_W) (s0 : Int32) : hsI l yX0_isPlane wsX0_isPlane rX0_isPlane D vwCl (hsT cI cC) [.int s0] ws (fun r w => r = hx_b (hx_pl s0) ∧ w = ws) := by
  refine hsI.enter (cc := cX0_isPlane) (maxL := 1) (ret := (some .boolean)) (by decide) rfl (Nat.le_of_ble_eq_true rfl) ?_
  intro Pg En Ss Mi Ar Be Me Co AA QQ hQ h hr hlk
  refine hs_lv (lv' := [(0, .int s0)]) rfl ?_
  refine hv_iload_n h dX0_isPlane_0 0 rfl rfl ?_
  refine hv_if_lt h 14 dX0_isPlane_1 rfl (fun c1 => ?_) (fun c1 => ?_)
  · refine hv_iconst h (0) dX0_isPlane_14 (by decide) ?_
    exact hv_zret h hr hlk hQ dX0_isPlane_15 rfl ⟨(by first | with_reducible rfl | simp [hx_b, hx_pl, c1]), rfl⟩
  · refine hv_iload_n h dX0_isPlane_4 0 rfl rfl ?_
    refine hv_bipush h (12) dX0_isPlane_5 (by decide) ?_
    refine hv_icmp_gt h 14 dX0_isPlane_7 rfl (fun c7 => ?_) (fun c7 => ?_)
    · refine hv_iconst h (0) dX0_isPlane_14 (by decide) ?_
      exact hv_zret h hr hlk hQ dX0_isPlane_15 rfl ⟨(by first | with_reducible rfl | simp [hx_b, hx_pl, c1, c7]), rfl⟩
    · refine hv_iconst h (1) dX0_isPlane_10 (by decide) ?_
      refine hv_goto h 15 dX0_isPlane_11 rfl ?_
      exact hv_zret h hr hlk hQ dX0_isPlane_15 rfl ⟨(by first | with_reducible rfl | simp [hx_b, hx_pl, c1, c7]), rfl⟩
abbrev rX0_isStretch : Room := { frames := 1, cells := 0, slots := 0, locals := 20 }
set_option maxHeartbeats 1000000 in
set_option maxRecDepth 100000 in
theorem k_X0_isStretch (l : Launch) (D : va_G) (cI cC : ClassId) (ws : va_W) (s0 : Int32) (w0 : Int32) : hsI l yX0_isStretch wsX0_isStretch rX0_isStretch D vwCl (hsT cI cC) [.int s0, .int w0] ws (fun r w => r = hx_b (hx_str s0 w0) ∧ w = ws) := by
  refine hsI.enter (cc := cX0_isStretch) (maxL := 2) (ret := (some .boolean)) (by decide) rfl (Nat.le_of_ble_eq_true rfl) ?_
  intro Pg En Ss Mi Ar Be Me Co AA QQ hQ h hr hlk
  refine hs_lv (lv' := [(0, .int s0), (1, .int w0)]) rfl ?_
  refine hv_iload_n h dX0_isStretch_0 0 rfl rfl ?_
  refine hv_callp (ws' := ws) (v := hx_b (hx_in s0 12)) h (hr_Si (n := 1) (rest := []) h (k_X0_isCoordinate l D cI cC ws s0) w_methodLink_X0_75 w_static_X0_isCoordinate w_initialized_X0 w_code_X0_isCoordinate (by decide +kernel) rfl rfl rfl ⟨by decide, by decide⟩ rfl (Nat.le_of_ble_eq_true rfl) ⟨Nat.zero_le _, Nat.zero_le _⟩ dX0_isStretch_1) ?_
  refine hv_bif_eq h 24 dX0_isStretch_4 rfl (fun c4 => ?_) (fun c4 => ?_)
  · refine hv_iconst h (0) dX0_isStretch_24 (by decide) ?_
    exact hv_zret h hr hlk hQ dX0_isStretch_25 rfl ⟨(by first | with_reducible rfl | simp [hx_b, hx_str, c4]), rfl⟩
  · refine hv_iload_n h dX0_isStretch_7 1 rfl rfl ?_
    refine hv_iconst h (1) dX0_isStretch_8 (by decide) ?_
    refine hv_icmp_lt h 24 dX0_isStretch_9 rfl (fun c9 => ?_) (fun c9 => ?_)
    · refine hv_iconst h (0) dX0_isStretch_24 (by decide) ?_
      exact hv_zret h hr hlk hQ dX0_isStretch_25 rfl ⟨(by first | with_reducible rfl | simp [hx_b, hx_str, c4, c9]), rfl⟩
    · refine hv_iload_n h dX0_isStretch_12 1 rfl rfl ?_
      refine hv_bipush h (12) dX0_isStretch_13 (by decide) ?_
      refine hv_iload_n h dX0_isStretch_15 0 rfl rfl ?_
      refine hv_isub h dX0_isStretch_16 ?_
      refine hv_icmp_gt h 24 dX0_isStretch_17 rfl (fun c17 => ?_) (fun c17 => ?_)
      · refine hv_iconst h (0) dX0_isStretch_24 (by decide) ?_
        exact hv_zret h hr hlk hQ dX0_isStretch_25 rfl ⟨(by first | with_reducible rfl | simp [hx_b, hx_str, c4, c9, c17]), rfl⟩
      · refine hv_iconst h (1) dX0_isStretch_20 (by decide) ?_
        refine hv_goto h 25 dX0_isStretch_21 rfl ?_
        exact hv_zret h hr hlk hQ dX0_isStretch_25 rfl ⟨(by first | with_reducible rfl | simp [hx_b, hx_str, c4, c9, c17]), rfl⟩
abbrev rX0_isStrokePlace : Room := { frames := 1, cells := 0, slots := 0, locals := 20 }
set_option maxHeartbeats 1000000 in
set_option maxRecDepth 100000 in
theorem k_X0_isStrokePlace (l : Launch) (D : va_G) (cI cC : ClassId) (ws : va_W) (u0 : Int32) (v0 : Int32) (x0 : Int32) : hsI l yX0_isStrokePlace wsX0_isStrokePlace rX0_isStrokePlace D vwCl (hsT cI cC) [.int u0, .int v0, .int x0] ws (fun r w => r = hx_b (hx_spl u0 v0 x0) ∧ w = ws) := by
  refine hsI.enter (cc := cX0_isStrokePlace) (maxL := 3) (ret := (some .boolean)) (by decide) rfl (Nat.le_of_ble_eq_true rfl) ?_
  intro Pg En Ss Mi Ar Be Me Co AA QQ hQ h hr hlk
  refine hs_lv (lv' := [(0, .int u0), (1, .int v0), (2, .int x0)]) rfl ?_
  refine hv_iload_n h dX0_isStrokePlace_0 2 rfl rfl ?_
  refine hv_if_ne h 24 dX0_isStrokePlace_1 rfl (fun c1 => ?_) (fun c1 => ?_)
  · refine hv_iload_n h dX0_isStrokePlace_24 2 rfl rfl ?_
    refine hv_iconst h (1) dX0_isStrokePlace_25 (by decide) ?_
    refine hv_icmp_ne h 47 dX0_isStrokePlace_26 rfl (fun c26 => ?_) (fun c26 => ?_)
    · refine hv_iconst h (0) dX0_isStrokePlace_47 (by decide) ?_
      exact hv_zret h hr hlk hQ dX0_isStrokePlace_48 rfl ⟨(by first | with_reducible rfl | simp [hx_b, hx_spl, c1, c26]), rfl⟩
    · refine hv_iload_n h dX0_isStrokePlace_29 0 rfl rfl ?_
      refine hv_callp (ws' := ws) (v := hx_b (hx_in u0 12)) h (hr_Si (n := 1) (rest := []) h (k_X0_isCoordinate l D cI cC ws u0) w_methodLink_X0_75 w_static_X0_isCoordinate w_initialized_X0 w_code_X0_isCoordinate (by decide +kernel) rfl rfl rfl ⟨by decide, by decide⟩ rfl (Nat.le_of_ble_eq_true rfl) ⟨Nat.zero_le _, Nat.zero_le _⟩ dX0_isStrokePlace_30) ?_
      refine hv_bif_eq h 47 dX0_isStrokePlace_33 rfl (fun c33 => ?_) (fun c33 => ?_)
      · refine hv_iconst h (0) dX0_isStrokePlace_47 (by decide) ?_
        exact hv_zret h hr hlk hQ dX0_isStrokePlace_48 rfl ⟨(by first | with_reducible rfl | simp [hx_b, hx_spl, c1, c26, c33]), rfl⟩
      · refine hv_iload_n h dX0_isStrokePlace_36 1 rfl rfl ?_
        refine hv_callp (ws' := ws) (v := hx_b (hx_pl v0)) h (hr_Si (n := 1) (rest := []) h (k_X0_isPlane l D cI cC ws v0) w_methodLink_X0_116 w_static_X0_isPlane w_initialized_X0 w_code_X0_isPlane (by decide +kernel) rfl rfl rfl ⟨by decide, by decide⟩ rfl (Nat.le_of_ble_eq_true rfl) ⟨Nat.zero_le _, Nat.zero_le _⟩ dX0_isStrokePlace_37) ?_
        refine hv_bif_eq h 47 dX0_isStrokePlace_40 rfl (fun c40 => ?_) (fun c40 => ?_)
        · refine hv_iconst h (0) dX0_isStrokePlace_47 (by decide) ?_
          exact hv_zret h hr hlk hQ dX0_isStrokePlace_48 rfl ⟨(by first | with_reducible rfl | simp [hx_b, hx_spl, c1, c26, c33, c40]), rfl⟩
        · refine hv_iconst h (1) dX0_isStrokePlace_43 (by decide) ?_
          refine hv_goto h 48 dX0_isStrokePlace_44 rfl ?_
          exact hv_zret h hr hlk hQ dX0_isStrokePlace_48 rfl ⟨(by first | with_reducible rfl | simp [hx_b, hx_spl, c1, c26, c33, c40]), rfl⟩
  · refine hv_iload_n h dX0_isStrokePlace_4 0 rfl rfl ?_
    refine hv_callp (ws' := ws) (v := hx_b (hx_pl u0)) h (hr_Si (n := 1) (rest := []) h (k_X0_isPlane l D cI cC ws u0) w_methodLink_X0_116 w_static_X0_isPlane w_initialized_X0 w_code_X0_isPlane (by decide +kernel) rfl rfl rfl ⟨by decide, by decide⟩ rfl (Nat.le_of_ble_eq_true rfl) ⟨Nat.zero_le _, Nat.zero_le _⟩ dX0_isStrokePlace_5) ?_
    refine hv_bif_eq h 22 dX0_isStrokePlace_8 rfl (fun c8 => ?_) (fun c8 => ?_)
    · refine hv_iconst h (0) dX0_isStrokePlace_22 (by decide) ?_
      exact hv_zret h hr hlk hQ dX0_isStrokePlace_23 rfl ⟨(by first | with_reducible rfl | simp [hx_b, hx_spl, c1, c8]), rfl⟩
    · refine hv_iload_n h dX0_isStrokePlace_11 1 rfl rfl ?_
      refine hv_callp (ws' := ws) (v := hx_b (hx_in v0 12)) h (hr_Si (n := 1) (rest := []) h (k_X0_isCoordinate l D cI cC ws v0) w_methodLink_X0_75 w_static_X0_isCoordinate w_initialized_X0 w_code_X0_isCoordinate (by decide +kernel) rfl rfl rfl ⟨by decide, by decide⟩ rfl (Nat.le_of_ble_eq_true rfl) ⟨Nat.zero_le _, Nat.zero_le _⟩ dX0_isStrokePlace_12) ?_
      refine hv_bif_eq h 22 dX0_isStrokePlace_15 rfl (fun c15 => ?_) (fun c15 => ?_)
      · refine hv_iconst h (0) dX0_isStrokePlace_22 (by decide) ?_
        exact hv_zret h hr hlk hQ dX0_isStrokePlace_23 rfl ⟨(by first | with_reducible rfl | simp [hx_b, hx_spl, c1, c8, c15]), rfl⟩
      · refine hv_iconst h (1) dX0_isStrokePlace_18 (by decide) ?_
        refine hv_goto h 23 dX0_isStrokePlace_19 rfl ?_
        exact hv_zret h hr hlk hQ dX0_isStrokePlace_23 rfl ⟨(by first | with_reducible rfl | simp [hx_b, hx_spl, c1, c8, c15]), rfl⟩
abbrev rX0_edgesAmong : Room := { frames := 0, cells := 0, slots := 0, locals := 0 }
set_option maxHeartbeats 1000000 in
set_option maxRecDepth 100000 in
theorem k_X0_edgesAmong (l : Launch) (D : va_G) (cI cC : ClassId) (ws : va_W) (a0 : Int32) (b0 : Int32) (c0 : Int32) (d0 : Int32) : hsI l yX0_edgesAmong wsX0_edgesAmong rX0_edgesAmong D vwCl (hsT cI cC) [.int a0, .int b0, .int c0, .int d0] ws (fun r w => r = hx_ea a0 b0 c0 d0 ∧ w = ws) := by
  refine hsI.enter (cc := cX0_edgesAmong) (maxL := 4) (ret := (some .int)) (by decide) rfl (Nat.le_of_ble_eq_true rfl) ?_
  intro Pg En Ss Mi Ar Be Me Co AA QQ hQ h hr hlk
  refine hs_lv (lv' := [(0, .int a0), (1, .int b0), (2, .int c0), (3, .int d0)]) rfl ?_
  refine hv_iload_n h dX0_edgesAmong_0 0 rfl rfl ?_
  refine hv_iload_n h dX0_edgesAmong_1 1 rfl rfl ?_
  refine hv_ixor h dX0_edgesAmong_2 ?_
  refine hv_iload_n h dX0_edgesAmong_3 2 rfl rfl ?_
  refine hv_iload_n h dX0_edgesAmong_4 3 rfl rfl ?_
  refine hv_ixor h dX0_edgesAmong_5 ?_
  refine hv_ior h dX0_edgesAmong_6 ?_
  refine hv_iload_n h dX0_edgesAmong_7 0 rfl rfl ?_
  refine hv_iload_n h dX0_edgesAmong_8 2 rfl rfl ?_
  refine hv_ixor h dX0_edgesAmong_9 ?_
  refine hv_iload_n h dX0_edgesAmong_10 1 rfl rfl ?_
  refine hv_iload_n h dX0_edgesAmong_11 3 rfl rfl ?_
  refine hv_ixor h dX0_edgesAmong_12 ?_
  refine hv_ior h dX0_edgesAmong_13 ?_
  refine hv_iand h dX0_edgesAmong_14 ?_
  exact hv_iret h hr hlk hQ dX0_edgesAmong_15 ⟨rfl, rfl⟩
abbrev rX0_edgesBetween : Room := { frames := 1, cells := 0, slots := 0, locals := 23 }
set_option maxHeartbeats 1000000 in
set_option maxRecDepth 100000 in
theorem k_X0_edgesBetween (l : Launch) (D : va_G) (cI cC : ClassId) (ws : va_W) (a0 : Int32) (c0 : Int32) : hsI l yX0_edgesBetween wsX0_edgesBetween rX0_edgesBetween D vwCl (hsT cI cC) [.int a0, .int c0] ws (fun r w => r = hx_eb a0 c0 ∧ w = ws) := by
  refine hsI.enter (cc := cX0_edgesBetween) (maxL := 2) (ret := (some .int)) (by decide) rfl (Nat.le_of_ble_eq_true rfl) ?_
  intro Pg En Ss Mi Ar Be Me Co AA QQ hQ h hr hlk
  refine hs_lv (lv' := [(0, .int a0), (1, .int c0)]) rfl ?_
  refine hv_iload_n h dX0_edgesBetween_0 0 rfl rfl ?_
  refine hv_iload_n h dX0_edgesBetween_1 0 rfl rfl ?_
  refine hv_iconst h (1) dX0_edgesBetween_2 (by decide) ?_
  refine hv_ishl h dX0_edgesBetween_3 ?_
  refine hv_iload_n h dX0_edgesBetween_4 1 rfl rfl ?_
  refine hv_iload_n h dX0_edgesBetween_5 1 rfl rfl ?_
  refine hv_iconst h (1) dX0_edgesBetween_6 (by decide) ?_
  refine hv_ishl h dX0_edgesBetween_7 ?_
  refine hv_callp (ws' := ws) (v := hx_ea a0 (a0 <<< ((1 : Int32) &&& 31)) c0 (c0 <<< ((1 : Int32) &&& 31))) h (hr_Si (n := 4) (rest := []) h (k_X0_edgesAmong l D cI cC ws a0 (a0 <<< ((1 : Int32) &&& 31)) c0 (c0 <<< ((1 : Int32) &&& 31))) w_methodLink_X0_163 w_static_X0_edgesAmong w_initialized_X0 w_code_X0_edgesAmong (by decide +kernel) rfl rfl rfl ⟨by decide, by decide⟩ rfl (Nat.le_of_ble_eq_true rfl) ⟨Nat.zero_le _, Nat.zero_le _⟩ dX0_edgesBetween_8) ?_
  exact hv_iret h hr hlk hQ dX0_edgesBetween_11 ⟨rfl, rfl⟩
abbrev rX0_depthOf : Room := { frames := 1, cells := 0, slots := 0, locals := 21 }
set_option maxHeartbeats 1000000 in
set_option maxRecDepth 100000 in
theorem k_X0_depthOf (l : Launch) (D : va_G) (cI cC : ClassId) (ws : va_W) (c0 : Int32) (b0 : Int32) : hsI l yX0_depthOf wsX0_depthOf rX0_depthOf D vwCl (hsT cI cC) [.int c0, .int b0] ws (fun r w => r = hx_dep c0 b0 ∧ w = ws) := by
  refine hsI.enter (cc := cX0_depthOf) (maxL := 2) (ret := (some .int)) (by decide) rfl (Nat.le_of_ble_eq_true rfl) ?_
  intro Pg En Ss Mi Ar Be Me Co AA QQ hQ h hr hlk
  refine hs_lv (lv' := [(0, .int c0), (1, .int b0)]) rfl ?_
  refine hv_iload_n h dX0_depthOf_0 0 rfl rfl ?_
  refine hv_if_ne h 7 dX0_depthOf_1 rfl (fun c1 => ?_) (fun c1 => ?_)
  · refine hv_iload_n h dX0_depthOf_7 1 rfl rfl ?_
    refine hv_if_eq h 19 dX0_depthOf_8 rfl (fun c8 => ?_) (fun c8 => ?_)
    · refine hv_iload_n h dX0_depthOf_19 0 rfl rfl ?_
      refine hv_callp (ws' := ws) (v := hj_ntz c0) h (hr_Si (n := 1) (rest := []) h (k_X5_numberOfTrailingZeros l D cI cC ws c0) w_methodLink_X0_157 w_static_X5_numberOfTrailingZeros w_initialized_X5 w_code_X5_numberOfTrailingZeros (by decide +kernel) rfl rfl rfl ⟨by decide, by decide⟩ rfl (Nat.le_of_ble_eq_true rfl) ⟨Nat.zero_le _, Nat.zero_le _⟩ dX0_depthOf_20) ?_
      exact hv_iret h hr hlk hQ dX0_depthOf_23 ⟨(by first | with_reducible rfl | simp [hx_b, hx_dep, c1, c8]), rfl⟩
    · refine hv_iload_n h dX0_depthOf_11 0 rfl rfl ?_
      refine hv_callp (ws' := ws) (v := hj_nlz c0) h (hr_Si (n := 1) (rest := []) h (k_X5_numberOfLeadingZeros l D cI cC ws c0) w_methodLink_X0_152 w_static_X5_numberOfLeadingZeros w_initialized_X5 w_code_X5_numberOfLeadingZeros (by decide +kernel) rfl rfl rfl ⟨by decide, by decide⟩ rfl (Nat.le_of_ble_eq_true rfl) ⟨Nat.zero_le _, Nat.zero_le _⟩ dX0_depthOf_12) ?_
      refine hv_bipush h (20) dX0_depthOf_15 (by decide) ?_
      refine hv_isub h dX0_depthOf_17 ?_
      exact hv_iret h hr hlk hQ dX0_depthOf_18 ⟨(by first | with_reducible rfl | simp [hx_b, hx_dep, c1, c8]), rfl⟩
  · refine hv_bipush h (12) dX0_depthOf_4 (by decide) ?_
    exact hv_iret h hr hlk hQ dX0_depthOf_6 ⟨(by first | with_reducible rfl | simp [hx_b, hx_dep, c1]), rfl⟩
abbrev rX0_strokeBetween : Room := { frames := 2, cells := 0, slots := 0, locals := 44 }
set_option maxHeartbeats 1000000 in
set_option maxRecDepth 100000 in
theorem k_X0_strokeBetween (l : Launch) (D : va_G) (cI cC : ClassId) (ws : va_W) (c0 : Int32) (n0 : Int32) (b0 : Int32) : hsI l yX0_strokeBetween wsX0_strokeBetween rX0_strokeBetween D vwCl (hsT cI cC) [.int c0, .int n0, .int b0] ws (fun r w => r = hx_sb c0 n0 b0 ∧ w = ws) := by
  refine hsI.enter (cc := cX0_strokeBetween) (maxL := 3) (ret := (some .int)) (by decide) rfl (Nat.le_of_ble_eq_true rfl) ?_
  intro Pg En Ss Mi Ar Be Me Co AA QQ hQ h hr hlk
  refine hs_lv (lv' := [(0, .int c0), (1, .int n0), (2, .int b0)]) rfl ?_
  refine hv_iload_n h dX0_strokeBetween_0 0 rfl rfl ?_
  refine hv_iload_n h dX0_strokeBetween_1 2 rfl rfl ?_
  refine hv_callp (ws' := ws) (v := hx_dep c0 b0) h (hr_Si (n := 2) (rest := []) h (k_X0_depthOf l D cI cC ws c0 b0) w_methodLink_X0_130 w_static_X0_depthOf w_initialized_X0 w_code_X0_depthOf (by decide +kernel) rfl rfl rfl ⟨by decide, by decide⟩ rfl (Nat.le_of_ble_eq_true rfl) ⟨Nat.zero_le _, Nat.zero_le _⟩ dX0_strokeBetween_2) ?_
  refine hv_iload_n h dX0_strokeBetween_5 1 rfl rfl ?_
  refine hv_iload_n h dX0_strokeBetween_6 2 rfl rfl ?_
  refine hv_callp (ws' := ws) (v := hx_dep n0 b0) h (hr_Si (n := 2) (rest := [.int (hx_dep c0 b0)]) h (k_X0_depthOf l D cI cC ws n0 b0) w_methodLink_X0_130 w_static_X0_depthOf w_initialized_X0 w_code_X0_depthOf (by decide +kernel) rfl rfl rfl ⟨by decide, by decide⟩ rfl (Nat.le_of_ble_eq_true rfl) ⟨Nat.zero_le _, Nat.zero_le _⟩ dX0_strokeBetween_7) ?_
  refine hv_icmp_eq h 15 dX0_strokeBetween_10 rfl (fun c10 => ?_) (fun c10 => ?_)
  · refine hv_iload_n h dX0_strokeBetween_15 0 rfl rfl ?_
    refine hv_iload_n h dX0_strokeBetween_16 1 rfl rfl ?_
    refine hv_callp (ws' := ws) (v := hx_eb c0 n0) h (hr_Si (n := 2) (rest := []) h (k_X0_edgesBetween l D cI cC ws c0 n0) w_methodLink_X0_160 w_static_X0_edgesBetween w_initialized_X0 w_code_X0_edgesBetween (by decide +kernel) rfl rfl rfl ⟨by decide, by decide⟩ rfl (Nat.le_of_ble_eq_true rfl) ⟨Nat.zero_le _, Nat.zero_le _⟩ dX0_strokeBetween_17) ?_
    refine hv_if_eq h 27 dX0_strokeBetween_20 rfl (fun c20 => ?_) (fun c20 => ?_)
    · refine hv_iconst h (0) dX0_strokeBetween_27 (by decide) ?_
      exact hv_iret h hr hlk hQ dX0_strokeBetween_28 ⟨(by first | with_reducible rfl | simp [hx_b, hx_sb, c10, c20]), rfl⟩
    · refine hv_iconst h (1) dX0_strokeBetween_23 (by decide) ?_
      refine hv_goto h 28 dX0_strokeBetween_24 rfl ?_
      exact hv_iret h hr hlk hQ dX0_strokeBetween_28 ⟨(by first | with_reducible rfl | simp [hx_b, hx_sb, c10, c20]), rfl⟩
  · refine hv_iconst h (2) dX0_strokeBetween_13 (by decide) ?_
    exact hv_iret h hr hlk hQ dX0_strokeBetween_14 ⟨(by first | with_reducible rfl | simp [hx_b, hx_sb, c10]), rfl⟩
abbrev rX1_spanOf : Room := { frames := 0, cells := 0, slots := 0, locals := 0 }
set_option maxHeartbeats 1000000 in
set_option maxRecDepth 100000 in
theorem k_X1_spanOf (l : Launch) (D : va_G) (cI cC : ClassId) (ws : va_W) (a0 : Int32) (b0 : Int32) : hsI l yX1_spanOf wsX1_spanOf rX1_spanOf D vwCl (hsT cI cC) [.int a0, .int b0] ws (fun r w => r = hx_span a0 b0 ∧ w = ws) := by
  refine hsI.enter (cc := cX1_spanOf) (maxL := 2) (ret := (some .int)) (by decide) rfl (Nat.le_of_ble_eq_true rfl) ?_
  intro Pg En Ss Mi Ar Be Me Co AA QQ hQ h hr hlk
  refine hs_lv (lv' := [(0, .int a0), (1, .int b0)]) rfl ?_
  refine hv_iconst h (1) dX1_spanOf_0 (by decide) ?_
  refine hv_iload_n h dX1_spanOf_1 1 rfl rfl ?_
  refine hv_iconst h (1) dX1_spanOf_2 (by decide) ?_
  refine hv_iadd h dX1_spanOf_3 ?_
  refine hv_ishl h dX1_spanOf_4 ?_
  refine hv_iconst h (1) dX1_spanOf_5 (by decide) ?_
  refine hv_iload_n h dX1_spanOf_6 0 rfl rfl ?_
  refine hv_ishl h dX1_spanOf_7 ?_
  refine hv_isub h dX1_spanOf_8 ?_
  exact hv_iret h hr hlk hQ dX1_spanOf_9 ⟨rfl, rfl⟩
abbrev rX1_joined : Room := { frames := 0, cells := 0, slots := 0, locals := 0 }
set_option maxHeartbeats 1000000 in
set_option maxRecDepth 100000 in
theorem k_X1_joined (l : Launch) (D : va_G) (cI cC : ClassId) (ws : va_W) (a0 : Int32) (b0 : Int32) (w0 : Int32) : hsI l yX1_joined wsX1_joined rX1_joined D vwCl (hsT cI cC) [.int a0, .int b0, .int w0] ws (fun r w => r = hx_jn a0 b0 w0 ∧ w = ws) := by
  refine hsI.enter (cc := cX1_joined) (maxL := 3) (ret := (some .int)) (by decide) rfl (Nat.le_of_ble_eq_true rfl) ?_
  intro Pg En Ss Mi Ar Be Me Co AA QQ hQ h hr hlk
  refine hs_lv (lv' := [(0, .int a0), (1, .int b0), (2, .int w0)]) rfl ?_
  refine hv_iload_n h dX1_joined_0 2 rfl rfl ?_
  rcases hx_sw3 w0 with c1 | c1 | c1 | ⟨c1, c2, c3, c4⟩
  · subst c1
    refine hv_tableIn h 28 dX1_joined_1 (by decide) (by decide) rfl rfl ?_
    refine hv_iload_n h dX1_joined_28 0 rfl rfl ?_
    refine hv_iload_n h dX1_joined_29 1 rfl rfl ?_
    refine hv_ior h dX1_joined_30 ?_
    exact hv_iret h hr hlk hQ dX1_joined_31 ⟨(by first | with_reducible rfl | simp [hx_b, hx_jn]), rfl⟩
  · subst c1
    refine hv_tableIn h 32 dX1_joined_1 (by decide) (by decide) rfl rfl ?_
    refine hv_iload_n h dX1_joined_32 0 rfl rfl ?_
    refine hv_iload_n h dX1_joined_33 1 rfl rfl ?_
    refine hv_iand h dX1_joined_34 ?_
    exact hv_iret h hr hlk hQ dX1_joined_35 ⟨(by first | with_reducible rfl | simp [hx_b, hx_jn]), rfl⟩
  · subst c1
    refine hv_tableIn h 36 dX1_joined_1 (by decide) (by decide) rfl rfl ?_
    refine hv_iload_n h dX1_joined_36 0 rfl rfl ?_
    refine hv_iload_n h dX1_joined_37 1 rfl rfl ?_
    refine hv_iconst h ((-1)) dX1_joined_38 (by decide) ?_
    refine hv_ixor h dX1_joined_39 ?_
    refine hv_iand h dX1_joined_40 ?_
    exact hv_iret h hr hlk hQ dX1_joined_41 ⟨(by first | with_reducible rfl | simp [hx_b, hx_jn]), rfl⟩
  · refine hv_tableOut h 42 dX1_joined_1 c1 rfl ?_
    refine hv_iload_n h dX1_joined_42 0 rfl rfl ?_
    refine hv_iload_n h dX1_joined_43 1 rfl rfl ?_
    refine hv_ixor h dX1_joined_44 ?_
    exact hv_iret h hr hlk hQ dX1_joined_45 ⟨(by first | with_reducible rfl | simp [hx_b, hx_jn, c2, c3, c4]), rfl⟩
abbrev rX1_reversed : Room := { frames := 2, cells := 0, slots := 0, locals := 40 }
set_option maxHeartbeats 1000000 in
set_option maxRecDepth 100000 in
theorem k_X1_reversed (l : Launch) (D : va_G) (cI cC : ClassId) (ws : va_W) (a0 : Int32) : hsI l yX1_reversed wsX1_reversed rX1_reversed D vwCl (hsT cI cC) [.int a0] ws (fun r w => r = hx_rev a0 ∧ w = ws) := by
  refine hsI.enter (cc := cX1_reversed) (maxL := 1) (ret := (some .int)) (by decide) rfl (Nat.le_of_ble_eq_true rfl) ?_
  intro Pg En Ss Mi Ar Be Me Co AA QQ hQ h hr hlk
  refine hs_lv (lv' := [(0, .int a0)]) rfl ?_
  refine hv_iload_n h dX1_reversed_0 0 rfl rfl ?_
  refine hv_callp (ws' := ws) (v := hj_rev a0) h (hr_Si (n := 1) (rest := []) h (k_X5_reverse l D cI cC ws a0) w_methodLink_X1_62 w_static_X5_reverse w_initialized_X5 w_code_X5_reverse (by decide +kernel) rfl rfl rfl ⟨by decide, by decide⟩ rfl (Nat.le_of_ble_eq_true rfl) ⟨Nat.zero_le _, Nat.zero_le _⟩ dX1_reversed_1) ?_
  refine hv_bipush h (20) dX1_reversed_4 (by decide) ?_
  refine hv_iushr h dX1_reversed_6 ?_
  exact hv_iret h hr hlk hQ dX1_reversed_7 ⟨rfl, rfl⟩
