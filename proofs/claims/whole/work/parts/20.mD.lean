theorem hx_xt {p q : Bool} (h : ¬ hx_b p = hx_b q) : (p ^^ q) = true := by cases p <;> cases q <;> first | rfl | exact absurd rfl h
theorem hx_xf {p q : Bool} (h : hx_b p = hx_b q) : (p ^^ q) = false := by cases p <;> cases q <;> first | rfl | exact absurd h (by decide)
abbrev rX4_box : Room := { frames := 2, cells := 0, slots := 0, locals := 45 }
set_option maxHeartbeats 1000000 in
set_option maxRecDepth 100000 in
theorem k_X4_box (l : Launch) (D : va_G) (cI cC : ClassId) (xa xb xc xd xe xf xg xh : Nat × va_E) (tl : va_W) (g : Nat → Nat) (bi wh se pi : Nat → Int32) (d : Nat) (al tp bd : Int32) (s0 : Int32) (x0 : Int32) (y0 : Int32) (z0 : Int32) (w0 : Int32) (d0 : Int32) (h0 : Int32) (hd : d ≤ 12) : hsI l yX4_box wsX4_box rX4_box D vwCl (hsT cI cC) [.ref (g 8), .int s0, .int x0, .int y0, .int z0, .int w0, .int d0, .int h0] (hmW xa xb xc xd xe xf xg xh tl g cI bi wh se pi (nI d) al tp bd) (fun r w => ((hx_in s0 6) = false ∧ r = -1 ∧ w = (hmW xa xb xc xd xe xf xg xh tl g cI bi wh se pi (nI d) al tp bd)) ∨ ((hx_in s0 6) = true ∧ (hx_in x0 12 && (hx_in y0 12 && (hx_in z0 12 && (!(decide (w0 ≤ 0)) && (!(decide (d0 ≤ 0)) && (!(decide (h0 ≤ 0)) && (!(decide (12 < w0)) && (!(decide (12 < d0)) && (!(decide (12 < h0)) && (!(decide (12 < x0 + w0)) && (!(decide (12 < y0 + d0)) && !(decide (12 < z0 + h0))))))))))))) = false ∧ r = -2 ∧ w = (hmW xa xb xc xd xe xf xg xh tl g cI bi wh se pi (nI d) al tp bd)) ∨ (∃ i0 : Nat, i0 < 6 ∧ s0 = nI i0 ∧ (hx_in s0 6) = true ∧ (hx_in x0 12 && (hx_in y0 12 && (hx_in z0 12 && (!(decide (w0 ≤ 0)) && (!(decide (d0 ≤ 0)) && (!(decide (h0 ≤ 0)) && (!(decide (12 < w0)) && (!(decide (12 < d0)) && (!(decide (12 < h0)) && (!(decide (12 < x0 + w0)) && (!(decide (12 < y0 + d0)) && !(decide (12 < z0 + h0))))))))))))) = true ∧ r = hy_cnt (hy_stp (hx_it (fun k b => hy_put b (x0.toNatClampNeg + (k % w0.toNatClampNeg)) (y0.toNatClampNeg + ((k / w0.toNatClampNeg) % d0.toNatClampNeg)) (nI (z0.toNatClampNeg + ((k / w0.toNatClampNeg) / d0.toNatClampNeg)))) ((w0.toNatClampNeg * d0.toNatClampNeg) * h0.toNatClampNeg) (hy_clr bi)) wh d i0).1 i0 ∧ w = (hmW xa xb xc xd xe xf xg xh tl g cI ((hy_stp (hx_it (fun k b => hy_put b (x0.toNatClampNeg + (k % w0.toNatClampNeg)) (y0.toNatClampNeg + ((k / w0.toNatClampNeg) % d0.toNatClampNeg)) (nI (z0.toNatClampNeg + ((k / w0.toNatClampNeg) / d0.toNatClampNeg)))) ((w0.toNatClampNeg * d0.toNatClampNeg) * h0.toNatClampNeg) (hy_clr bi)) wh d i0).1) ((hy_stp (hx_it (fun k b => hy_put b (x0.toNatClampNeg + (k % w0.toNatClampNeg)) (y0.toNatClampNeg + ((k / w0.toNatClampNeg) % d0.toNatClampNeg)) (nI (z0.toNatClampNeg + ((k / w0.toNatClampNeg) / d0.toNatClampNeg)))) ((w0.toNatClampNeg * d0.toNatClampNeg) * h0.toNatClampNeg) (hy_clr bi)) wh d i0).2) se pi (nI (hq_d d + 1)) (nI (hq_d d + 1)) tp bd))) := by
  refine hsI.enter (cc := cX4_box) (maxL := 10) (ret := (some .int)) (by decide) rfl (Nat.le_of_ble_eq_true rfl) ?_
  intro Pg En Ss Mi Ar Be Me Co AA QQ hQ h hr hlk
  refine hs_lv (lv' := [(0, .ref (g 8)), (1, .int s0), (2, .int x0), (3, .int y0), (4, .int z0), (5, .int w0), (6, .int d0), (7, .int h0)]) rfl ?_
  refine hv_iload_n h dX4_box_0 1 rfl rfl ?_
  refine hv_callp (ws' := (hmW xa xb xc xd xe xf xg xh tl g cI bi wh se pi (nI d) al tp bd)) (v := hx_b (hx_in s0 6)) h (hr_Si (n := 1) (rest := []) h (k_X4_isSolid l D cI cC (hmW xa xb xc xd xe xf xg xh tl g cI bi wh se pi (nI d) al tp bd) s0) w_methodLink_X4_45 w_static_X4_isSolid w_initialized_X4 w_code_X4_isSolid (by decide +kernel) rfl rfl rfl ⟨by decide, by decide⟩ rfl (Nat.le_of_ble_eq_true rfl) ⟨Nat.zero_le _, Nat.zero_le _⟩ dX4_box_1) ?_
  refine hv_bif_ne h 9 dX4_box_4 rfl (fun c4 => ?_) (fun c4 => ?_)
  · refine hv_iload_n h dX4_box_9 2 rfl rfl ?_
    refine hv_bipush h (12) dX4_box_10 (by decide) ?_
    refine hv_callp (ws' := (hmW xa xb xc xd xe xf xg xh tl g cI bi wh se pi (nI d) al tp bd)) (v := hx_b (hx_in x0 12)) h (hr_Si (n := 2) (rest := []) h (k_X4_isIn l D cI cC (hmW xa xb xc xd xe xf xg xh tl g cI bi wh se pi (nI d) al tp bd) x0 12) w_methodLink_X4_22 w_static_X4_isIn w_initialized_X4 w_code_X4_isIn (by decide +kernel) rfl rfl rfl ⟨by decide, by decide⟩ rfl (Nat.le_of_ble_eq_true rfl) ⟨Nat.zero_le _, Nat.zero_le _⟩ dX4_box_12) ?_
    refine hv_bif_eq h 105 dX4_box_15 rfl (fun c15 => ?_) (fun c15 => ?_)
    · refine hv_iconst h (0) dX4_box_105 (by decide) ?_
      refine hv_istore h [(8, .int 0), (0, .ref (g 8)), (1, .int s0), (2, .int x0), (3, .int y0), (4, .int z0), (5, .int w0), (6, .int d0), (7, .int h0)] dX4_box_106 (by decide) rfl ?_
      refine hv_iload h dX4_box_108 0 rfl ?_
      refine hv_if_ne h 116 dX4_box_110 rfl (fun hc => absurd rfl hc) (fun c110 => ?_)
      refine hv_bipush h ((-2)) dX4_box_113 (by decide) ?_
      exact hv_iret h hr hlk hQ dX4_box_115 (Or.inr (Or.inl ⟨by simp [c4, c15, c110], by simp [c4, c15, c110], rfl, rfl⟩))
    · refine hv_iload_n h dX4_box_18 3 rfl rfl ?_
      refine hv_bipush h (12) dX4_box_19 (by decide) ?_
      refine hv_callp (ws' := (hmW xa xb xc xd xe xf xg xh tl g cI bi wh se pi (nI d) al tp bd)) (v := hx_b (hx_in y0 12)) h (hr_Si (n := 2) (rest := []) h (k_X4_isIn l D cI cC (hmW xa xb xc xd xe xf xg xh tl g cI bi wh se pi (nI d) al tp bd) y0 12) w_methodLink_X4_22 w_static_X4_isIn w_initialized_X4 w_code_X4_isIn (by decide +kernel) rfl rfl rfl ⟨by decide, by decide⟩ rfl (Nat.le_of_ble_eq_true rfl) ⟨Nat.zero_le _, Nat.zero_le _⟩ dX4_box_21) ?_
      refine hv_bif_eq h 105 dX4_box_24 rfl (fun c24 => ?_) (fun c24 => ?_)
      · refine hv_iconst h (0) dX4_box_105 (by decide) ?_
        refine hv_istore h [(8, .int 0), (0, .ref (g 8)), (1, .int s0), (2, .int x0), (3, .int y0), (4, .int z0), (5, .int w0), (6, .int d0), (7, .int h0)] dX4_box_106 (by decide) rfl ?_
        refine hv_iload h dX4_box_108 0 rfl ?_
        refine hv_if_ne h 116 dX4_box_110 rfl (fun hc => absurd rfl hc) (fun c110 => ?_)
        refine hv_bipush h ((-2)) dX4_box_113 (by decide) ?_
        exact hv_iret h hr hlk hQ dX4_box_115 (Or.inr (Or.inl ⟨by simp [c4, c15, c24, c110], by simp [c4, c15, c24, c110], rfl, rfl⟩))
      · refine hv_iload h dX4_box_27 4 rfl ?_
        refine hv_bipush h (12) dX4_box_29 (by decide) ?_
        refine hv_callp (ws' := (hmW xa xb xc xd xe xf xg xh tl g cI bi wh se pi (nI d) al tp bd)) (v := hx_b (hx_in z0 12)) h (hr_Si (n := 2) (rest := []) h (k_X4_isIn l D cI cC (hmW xa xb xc xd xe xf xg xh tl g cI bi wh se pi (nI d) al tp bd) z0 12) w_methodLink_X4_22 w_static_X4_isIn w_initialized_X4 w_code_X4_isIn (by decide +kernel) rfl rfl rfl ⟨by decide, by decide⟩ rfl (Nat.le_of_ble_eq_true rfl) ⟨Nat.zero_le _, Nat.zero_le _⟩ dX4_box_31) ?_
        refine hv_bif_eq h 105 dX4_box_34 rfl (fun c34 => ?_) (fun c34 => ?_)
        · refine hv_iconst h (0) dX4_box_105 (by decide) ?_
          refine hv_istore h [(8, .int 0), (0, .ref (g 8)), (1, .int s0), (2, .int x0), (3, .int y0), (4, .int z0), (5, .int w0), (6, .int d0), (7, .int h0)] dX4_box_106 (by decide) rfl ?_
          refine hv_iload h dX4_box_108 0 rfl ?_
          refine hv_if_ne h 116 dX4_box_110 rfl (fun hc => absurd rfl hc) (fun c110 => ?_)
          refine hv_bipush h ((-2)) dX4_box_113 (by decide) ?_
          exact hv_iret h hr hlk hQ dX4_box_115 (Or.inr (Or.inl ⟨by simp [c4, c15, c24, c34, c110], by simp [c4, c15, c24, c34, c110], rfl, rfl⟩))
        · refine hv_iload h dX4_box_37 5 rfl ?_
          refine hv_if_le h 105 dX4_box_39 rfl (fun c39 => ?_) (fun c39 => ?_)
          · refine hv_iconst h (0) dX4_box_105 (by decide) ?_
            refine hv_istore h [(8, .int 0), (0, .ref (g 8)), (1, .int s0), (2, .int x0), (3, .int y0), (4, .int z0), (5, .int w0), (6, .int d0), (7, .int h0)] dX4_box_106 (by decide) rfl ?_
            refine hv_iload h dX4_box_108 0 rfl ?_
            refine hv_if_ne h 116 dX4_box_110 rfl (fun hc => absurd rfl hc) (fun c110 => ?_)
            refine hv_bipush h ((-2)) dX4_box_113 (by decide) ?_
            exact hv_iret h hr hlk hQ dX4_box_115 (Or.inr (Or.inl ⟨by simp [c4, c15, c24, c34, c39, c110], by simp [c4, c15, c24, c34, c39, c110], rfl, rfl⟩))
          · refine hv_iload h dX4_box_42 6 rfl ?_
            refine hv_if_le h 105 dX4_box_44 rfl (fun c44 => ?_) (fun c44 => ?_)
            · refine hv_iconst h (0) dX4_box_105 (by decide) ?_
              refine hv_istore h [(8, .int 0), (0, .ref (g 8)), (1, .int s0), (2, .int x0), (3, .int y0), (4, .int z0), (5, .int w0), (6, .int d0), (7, .int h0)] dX4_box_106 (by decide) rfl ?_
              refine hv_iload h dX4_box_108 0 rfl ?_
              refine hv_if_ne h 116 dX4_box_110 rfl (fun hc => absurd rfl hc) (fun c110 => ?_)
              refine hv_bipush h ((-2)) dX4_box_113 (by decide) ?_
              exact hv_iret h hr hlk hQ dX4_box_115 (Or.inr (Or.inl ⟨by simp [c4, c15, c24, c34, c39, c44, c110], by simp [c4, c15, c24, c34, c39, c44, c110], rfl, rfl⟩))
            · refine hv_iload h dX4_box_47 7 rfl ?_
              refine hv_if_le h 105 dX4_box_49 rfl (fun c49 => ?_) (fun c49 => ?_)
              · refine hv_iconst h (0) dX4_box_105 (by decide) ?_
                refine hv_istore h [(8, .int 0), (0, .ref (g 8)), (1, .int s0), (2, .int x0), (3, .int y0), (4, .int z0), (5, .int w0), (6, .int d0), (7, .int h0)] dX4_box_106 (by decide) rfl ?_
                refine hv_iload h dX4_box_108 0 rfl ?_
                refine hv_if_ne h 116 dX4_box_110 rfl (fun hc => absurd rfl hc) (fun c110 => ?_)
                refine hv_bipush h ((-2)) dX4_box_113 (by decide) ?_
                exact hv_iret h hr hlk hQ dX4_box_115 (Or.inr (Or.inl ⟨by simp [c4, c15, c24, c34, c39, c44, c49, c110], by simp [c4, c15, c24, c34, c39, c44, c49, c110], rfl, rfl⟩))
              · refine hv_iload h dX4_box_52 5 rfl ?_
                refine hv_bipush h (12) dX4_box_54 (by decide) ?_
                refine hv_icmp_gt h 105 dX4_box_56 rfl (fun c56 => ?_) (fun c56 => ?_)
                · refine hv_iconst h (0) dX4_box_105 (by decide) ?_
                  refine hv_istore h [(8, .int 0), (0, .ref (g 8)), (1, .int s0), (2, .int x0), (3, .int y0), (4, .int z0), (5, .int w0), (6, .int d0), (7, .int h0)] dX4_box_106 (by decide) rfl ?_
                  refine hv_iload h dX4_box_108 0 rfl ?_
                  refine hv_if_ne h 116 dX4_box_110 rfl (fun hc => absurd rfl hc) (fun c110 => ?_)
                  refine hv_bipush h ((-2)) dX4_box_113 (by decide) ?_
                  exact hv_iret h hr hlk hQ dX4_box_115 (Or.inr (Or.inl ⟨by simp [c4, c15, c24, c34, c39, c44, c49, c56, c110], by simp [c4, c15, c24, c34, c39, c44, c49, c56, c110], rfl, rfl⟩))
                · refine hv_iload h dX4_box_59 6 rfl ?_
                  refine hv_bipush h (12) dX4_box_61 (by decide) ?_
                  refine hv_icmp_gt h 105 dX4_box_63 rfl (fun c63 => ?_) (fun c63 => ?_)
                  · refine hv_iconst h (0) dX4_box_105 (by decide) ?_
                    refine hv_istore h [(8, .int 0), (0, .ref (g 8)), (1, .int s0), (2, .int x0), (3, .int y0), (4, .int z0), (5, .int w0), (6, .int d0), (7, .int h0)] dX4_box_106 (by decide) rfl ?_
                    refine hv_iload h dX4_box_108 0 rfl ?_
                    refine hv_if_ne h 116 dX4_box_110 rfl (fun hc => absurd rfl hc) (fun c110 => ?_)
                    refine hv_bipush h ((-2)) dX4_box_113 (by decide) ?_
                    exact hv_iret h hr hlk hQ dX4_box_115 (Or.inr (Or.inl ⟨by simp [c4, c15, c24, c34, c39, c44, c49, c56, c63, c110], by simp [c4, c15, c24, c34, c39, c44, c49, c56, c63, c110], rfl, rfl⟩))
                  · refine hv_iload h dX4_box_66 7 rfl ?_
                    refine hv_bipush h (12) dX4_box_68 (by decide) ?_
                    refine hv_icmp_gt h 105 dX4_box_70 rfl (fun c70 => ?_) (fun c70 => ?_)
                    · refine hv_iconst h (0) dX4_box_105 (by decide) ?_
                      refine hv_istore h [(8, .int 0), (0, .ref (g 8)), (1, .int s0), (2, .int x0), (3, .int y0), (4, .int z0), (5, .int w0), (6, .int d0), (7, .int h0)] dX4_box_106 (by decide) rfl ?_
                      refine hv_iload h dX4_box_108 0 rfl ?_
                      refine hv_if_ne h 116 dX4_box_110 rfl (fun hc => absurd rfl hc) (fun c110 => ?_)
                      refine hv_bipush h ((-2)) dX4_box_113 (by decide) ?_
                      exact hv_iret h hr hlk hQ dX4_box_115 (Or.inr (Or.inl ⟨by simp [c4, c15, c24, c34, c39, c44, c49, c56, c63, c70, c110], by simp [c4, c15, c24, c34, c39, c44, c49, c56, c63, c70, c110], rfl, rfl⟩))
                    · refine hv_iload_n h dX4_box_73 2 rfl rfl ?_
                      refine hv_iload h dX4_box_74 5 rfl ?_
                      refine hv_iadd h dX4_box_76 ?_
                      refine hv_bipush h (12) dX4_box_77 (by decide) ?_
                      refine hv_icmp_gt h 105 dX4_box_79 rfl (fun c79 => ?_) (fun c79 => ?_)
                      · refine hv_iconst h (0) dX4_box_105 (by decide) ?_
                        refine hv_istore h [(8, .int 0), (0, .ref (g 8)), (1, .int s0), (2, .int x0), (3, .int y0), (4, .int z0), (5, .int w0), (6, .int d0), (7, .int h0)] dX4_box_106 (by decide) rfl ?_
                        refine hv_iload h dX4_box_108 0 rfl ?_
                        refine hv_if_ne h 116 dX4_box_110 rfl (fun hc => absurd rfl hc) (fun c110 => ?_)
                        refine hv_bipush h ((-2)) dX4_box_113 (by decide) ?_
                        exact hv_iret h hr hlk hQ dX4_box_115 (Or.inr (Or.inl ⟨by simp [c4, c15, c24, c34, c39, c44, c49, c56, c63, c70, c79, c110], by simp [c4, c15, c24, c34, c39, c44, c49, c56, c63, c70, c79, c110], rfl, rfl⟩))
                      · refine hv_iload_n h dX4_box_82 3 rfl rfl ?_
                        refine hv_iload h dX4_box_83 6 rfl ?_
                        refine hv_iadd h dX4_box_85 ?_
                        refine hv_bipush h (12) dX4_box_86 (by decide) ?_
                        refine hv_icmp_gt h 105 dX4_box_88 rfl (fun c88 => ?_) (fun c88 => ?_)
                        · refine hv_iconst h (0) dX4_box_105 (by decide) ?_
                          refine hv_istore h [(8, .int 0), (0, .ref (g 8)), (1, .int s0), (2, .int x0), (3, .int y0), (4, .int z0), (5, .int w0), (6, .int d0), (7, .int h0)] dX4_box_106 (by decide) rfl ?_
                          refine hv_iload h dX4_box_108 0 rfl ?_
                          refine hv_if_ne h 116 dX4_box_110 rfl (fun hc => absurd rfl hc) (fun c110 => ?_)
                          refine hv_bipush h ((-2)) dX4_box_113 (by decide) ?_
                          exact hv_iret h hr hlk hQ dX4_box_115 (Or.inr (Or.inl ⟨by simp [c4, c15, c24, c34, c39, c44, c49, c56, c63, c70, c79, c88, c110], by simp [c4, c15, c24, c34, c39, c44, c49, c56, c63, c70, c79, c88, c110], rfl, rfl⟩))
                        · refine hv_iload h dX4_box_91 4 rfl ?_
                          refine hv_iload h dX4_box_93 7 rfl ?_
                          refine hv_iadd h dX4_box_95 ?_
                          refine hv_bipush h (12) dX4_box_96 (by decide) ?_
                          refine hv_icmp_gt h 105 dX4_box_98 rfl (fun c98 => ?_) (fun c98 => ?_)
                          · refine hv_iconst h (0) dX4_box_105 (by decide) ?_
                            refine hv_istore h [(8, .int 0), (0, .ref (g 8)), (1, .int s0), (2, .int x0), (3, .int y0), (4, .int z0), (5, .int w0), (6, .int d0), (7, .int h0)] dX4_box_106 (by decide) rfl ?_
                            refine hv_iload h dX4_box_108 0 rfl ?_
                            refine hv_if_ne h 116 dX4_box_110 rfl (fun hc => absurd rfl hc) (fun c110 => ?_)
                            refine hv_bipush h ((-2)) dX4_box_113 (by decide) ?_
                            exact hv_iret h hr hlk hQ dX4_box_115 (Or.inr (Or.inl ⟨by simp [c4, c15, c24, c34, c39, c44, c49, c56, c63, c70, c79, c88, c98, c110], by simp [c4, c15, c24, c34, c39, c44, c49, c56, c63, c70, c79, c88, c98, c110], rfl, rfl⟩))
                          · refine hv_iconst h (1) dX4_box_101 (by decide) ?_
                            refine hv_goto h 106 dX4_box_102 rfl ?_
                            refine hv_istore h [(8, .int 1), (0, .ref (g 8)), (1, .int s0), (2, .int x0), (3, .int y0), (4, .int z0), (5, .int w0), (6, .int d0), (7, .int h0)] dX4_box_106 (by decide) rfl ?_
                            refine hv_iload h dX4_box_108 0 rfl ?_
                            refine hv_if_ne h 116 dX4_box_110 rfl (fun c110 => ?_) (fun hc => absurd hc (by decide))
                            obtain ⟨i0, hi0, rfl⟩ := hx_in_nat (n := 6) (by decide) c4
                            have hcli0 : (nI i0).toNatClampNeg = i0 := nI_clamp (by omega)
                            obtain ⟨q0, hq0, rfl⟩ := hx_in_nat (n := 12) (by decide) c15
                            have hclq0 : (nI q0).toNatClampNeg = q0 := nI_clamp (by omega)
                            obtain ⟨q1, hq1, rfl⟩ := hx_in_nat (n := 12) (by decide) c24
                            have hclq1 : (nI q1).toNatClampNeg = q1 := nI_clamp (by omega)
                            obtain ⟨q2, hq2, rfl⟩ := hx_in_nat (n := 12) (by decide) c34
                            have hclq2 : (nI q2).toNatClampNeg = q2 := nI_clamp (by omega)
                            obtain ⟨n0, hn0p, hn0, rfl⟩ := hx_pos_nat c39 c56
                            have hcln0 : (nI n0).toNatClampNeg = n0 := nI_clamp (by omega)
                            obtain ⟨n1, hn1p, hn1, rfl⟩ := hx_pos_nat c44 c63
                            have hcln1 : (nI n1).toNatClampNeg = n1 := nI_clamp (by omega)
                            obtain ⟨n2, hn2p, hn2, rfl⟩ := hx_pos_nat c49 c70
                            have hcln2 : (nI n2).toNatClampNeg = n2 := nI_clamp (by omega)
                            have hfq0 : q0 + n0 ≤ 12 := Nat.le_of_not_lt (fun q9 => c79 (by rw [nI_add]; exact nI_lt (a := 12) q9 (by omega)))
                            have hfq1 : q1 + n1 ≤ 12 := Nat.le_of_not_lt (fun q9 => c88 (by rw [nI_add]; exact nI_lt (a := 12) q9 (by omega)))
                            have hfq2 : q2 + n2 ≤ 12 := Nat.le_of_not_lt (fun q9 => c98 (by rw [nI_add]; exact nI_lt (a := 12) q9 (by omega)))
                            have hbig : (n0 * n1) * n2 ≤ 1728 := Nat.mul_le_mul (Nat.mul_le_mul hn0 hn1) hn2
                            refine hv_aload_n h dX4_box_116 1 rfl rfl ?_
                            refine hv_callw (ws' := (hmW xa xb xc xd xe xf xg xh tl g cI (hy_clr bi) wh se pi (nI d) al tp bd)) h (hr_Vv (n := 0) (rest := []) h 8 rfl rfl (k_X4_clearDraft l D cI cC xa xb xc xd xe xf xg xh tl g bi wh se pi (nI d) al tp bd  ) w_methodLink_X4_49 w_instanceMethod_X4_clearDraft w_selects_X4_clearDraft w_initialized_X4 w_code_X4_clearDraft (by decide +kernel) rfl rfl rfl ⟨by decide, by decide⟩ rfl (Nat.le_of_ble_eq_true rfl) ⟨Nat.zero_le _, Nat.zero_le _⟩ dX4_box_117) ?_
                            refine hv_iconst h (nI 0) dX4_box_120 (by decide) ?_
                            refine hv_istore h [(9, .int (nI 0)), (8, .int 1), (0, .ref (g 8)), (1, .int (nI i0)), (2, .int (nI q0)), (3, .int (nI q1)), (4, .int (nI q2)), (5, .int (nI n0)), (6, .int (nI n1)), (7, .int (nI n2))] dX4_box_121 (by decide) rfl ?_
                            have L123 : ∀ d123 k : Nat, k + d123 = (n0 * n1) * n2 → ∀ (Fbi : Nat → Int32), Fbi = hx_it (fun k b => hy_put b (q0 + (k % n0)) (q1 + ((k / n0) % n1)) (nI (q2 + ((k / n0) / n1)))) k (hy_clr bi) → hsV Pg l En rX4_box Ss Mi Ar Be Me Co QQ 10 D vwCl AA Ss.heap 0 0 123 [(9, .int (nI k)), (8, .int 1), (0, .ref (g 8)), (1, .int (nI i0)), (2, .int (nI q0)), (3, .int (nI q1)), (4, .int (nI q2)), (5, .int (nI n0)), (6, .int (nI n1)), (7, .int (nI n2))] (hmW xa xb xc xd xe xf xg xh tl g cI Fbi wh se pi (nI d) al tp bd) [] := by
                              intro d123
                              induction d123 with
                              | zero =>
                                intro k kq123 Fbi e_Fbi
                                obtain rfl : k = (n0 * n1) * n2 := by omega
                                refine hv_iload h dX4_box_123 0 rfl ?_
                                refine hv_iload h dX4_box_125 7 rfl ?_
                                refine hv_iload h dX4_box_127 8 rfl ?_
                                refine hw_imul h (nI (n0 * n1)) dX4_box_129 (pk_mul n0 n1) ?_
                                refine hv_iload h dX4_box_130 9 rfl ?_
                                refine hw_imul h (nI ((n0 * n1) * n2)) dX4_box_132 (pk_mul (n0 * n1) n2) ?_
                                refine hv_icmp_ge h 174 dX4_box_133 rfl (fun c133 => ?_) (fun hc => absurd (Int32.le_refl _) hc)
                                refine hv_aload_n h dX4_box_174 2 rfl rfl ?_
                                refine hv_iload_n h dX4_box_175 3 rfl rfl ?_
                                refine hv_callp (ws' := (hmW xa xb xc xd xe xf xg xh tl g cI ((hy_stp Fbi wh d i0).1) ((hy_stp Fbi wh d i0).2) se pi (nI (hq_d d + 1)) (nI (hq_d d + 1)) tp bd)) (v := hy_cnt (hy_stp Fbi wh d i0).1 i0) h (hr_Vi (n := 1) (rest := []) h 8 rfl rfl (k_X4_step l D cI cC xa xb xc xd xe xf xg xh tl g Fbi wh se pi d al tp bd i0 hi0 hd) w_methodLink_X4_56 w_instanceMethod_X4_step w_selects_X4_step w_initialized_X4 w_code_X4_step (by decide +kernel) rfl rfl rfl ⟨by decide, by decide⟩ rfl (Nat.le_of_ble_eq_true rfl) ⟨Nat.zero_le _, Nat.zero_le _⟩ dX4_box_176) ?_
                                exact hv_iret h hr hlk hQ dX4_box_179 (Or.inr (Or.inr ⟨i0, hi0, rfl, by simp [c4, c15, c24, c34, c39, c44, c49, c56, c63, c70, c79, c88, c98, c110, hcli0, hclq0, hclq1, hclq2, hcln0, hcln1, hcln2, c133], by simp [c4, c15, c24, c34, c39, c44, c49, c56, c63, c70, c79, c88, c98, c110, hcli0, hclq0, hclq1, hclq2, hcln0, hcln1, hcln2, c133], by rw [e_Fbi]; simp only [hclq0, hclq1, hclq2, hcln0, hcln1, hcln2]; first | done | rfl, by rw [e_Fbi]; simp only [hclq0, hclq1, hclq2, hcln0, hcln1, hcln2]; first | done | rfl⟩))
                              | succ d123 ih123 =>
                                intro k kq123 Fbi e_Fbi
                                have hlt123 : k < (n0 * n1) * n2 := by omega
                                refine hv_iload h dX4_box_123 0 rfl ?_
                                refine hv_iload h dX4_box_125 7 rfl ?_
                                refine hv_iload h dX4_box_127 8 rfl ?_
                                refine hw_imul h (nI (n0 * n1)) dX4_box_129 (pk_mul n0 n1) ?_
                                refine hv_iload h dX4_box_130 9 rfl ?_
                                refine hw_imul h (nI ((n0 * n1) * n2)) dX4_box_132 (pk_mul (n0 * n1) n2) ?_
                                refine hv_icmp_ge h 174 dX4_box_133 rfl (fun hc => absurd hc (nI_ge hlt123 (by omega))) (fun c133 => ?_)
                                have hm0 : k % n0 < n0 := Nat.mod_lt _ hn0p
                                have hm1 : (k / n0) % n1 < n1 := Nat.mod_lt _ hn1p
                                have hm2 : (k / n0) / n1 < n2 := by rw [Nat.div_div_eq_div_mul]; exact Nat.div_lt_of_lt_mul hlt123
                                have hm3 : k / n0 < 1729 := Nat.lt_of_le_of_lt (Nat.div_le_self _ _) (by omega)
                                refine hv_aload_n h dX4_box_136 2 rfl rfl ?_
                                refine hv_iload_n h dX4_box_137 4 rfl rfl ?_
                                refine hv_iload h dX4_box_138 0 rfl ?_
                                refine hv_iload h dX4_box_140 7 rfl ?_
                                refine hw_irem h (nI (k % n0)) dX4_box_142 (nI_ne0 (by omega) (by omega)) (pk_rem (by omega) (by omega) (by omega)) ?_
                                refine hw_iadd h (nI (q0 + (k % n0))) dX4_box_143 (nI_add q0 (k % n0)) ?_
                                refine hv_iload_n h dX4_box_144 5 rfl rfl ?_
                                refine hv_iload h dX4_box_145 0 rfl ?_
                                refine hv_iload h dX4_box_147 7 rfl ?_
                                refine hw_idiv h (nI (k / n0)) dX4_box_149 (nI_ne0 (by omega) (by omega)) (pk_div (by omega) (by omega) (by omega)) ?_
                                refine hv_iload h dX4_box_150 8 rfl ?_
                                refine hw_irem h (nI ((k / n0) % n1)) dX4_box_152 (nI_ne0 (by omega) (by omega)) (pk_rem (by omega) (by omega) (by omega)) ?_
                                refine hw_iadd h (nI (q1 + ((k / n0) % n1))) dX4_box_153 (nI_add q1 ((k / n0) % n1)) ?_
                                refine hv_iload h dX4_box_154 6 rfl ?_
                                refine hv_iload h dX4_box_156 0 rfl ?_
                                refine hv_iload h dX4_box_158 7 rfl ?_
                                refine hw_idiv h (nI (k / n0)) dX4_box_160 (nI_ne0 (by omega) (by omega)) (pk_div (by omega) (by omega) (by omega)) ?_
                                refine hv_iload h dX4_box_161 8 rfl ?_
                                refine hw_idiv h (nI ((k / n0) / n1)) dX4_box_163 (nI_ne0 (by omega) (by omega)) (pk_div (by omega) (by omega) (by omega)) ?_
                                refine hw_iadd h (nI (q2 + ((k / n0) / n1))) dX4_box_164 (nI_add q2 ((k / n0) / n1)) ?_
                                refine hv_callw (ws' := (hmW xa xb xc xd xe xf xg xh tl g cI (hy_put Fbi (q0 + (k % n0)) (q1 + ((k / n0) % n1)) (nI (q2 + ((k / n0) / n1)))) wh se pi (nI d) al tp bd)) h (hr_Vv (n := 3) (rest := []) h 8 rfl rfl (k_X4_put l D cI cC xa xb xc xd xe xf xg xh tl g Fbi wh se pi (nI d) al tp bd (q0 + (k % n0)) (q1 + ((k / n0) % n1)) (nI (q2 + ((k / n0) / n1))) (by omega) (by omega)) w_methodLink_X4_52 w_instanceMethod_X4_put w_selects_X4_put w_initialized_X4 w_code_X4_put (by decide +kernel) rfl rfl rfl ⟨by decide, by decide⟩ rfl (Nat.le_of_ble_eq_true rfl) ⟨Nat.zero_le _, Nat.zero_le _⟩ dX4_box_165) ?_
                                refine hv_iinc h (nI (k + 1)) [(9, .int (nI (k + 1))), (8, .int 1), (0, .ref (g 8)), (1, .int (nI i0)), (2, .int (nI q0)), (3, .int (nI q1)), (4, .int (nI q2)), (5, .int (nI n0)), (6, .int (nI n1)), (7, .int (nI n2))] dX4_box_168 0 rfl (hs_inc _) (by decide) rfl ?_
                                refine hv_goto h 123 dX4_box_171 rfl ?_
                                exact ih123 (k + 1) (by omega) _ (by rw [hx_it_s, ← e_Fbi]; try first | assumption | with_reducible rfl | (simp [c4, c15, c24, c34, c39, c44, c49, c56, c63, c70, c79, c88, c98, c110, hcli0, hclq0, hclq1, hclq2, hcln0, hcln1, hcln2, c133]; done))
                            exact L123 ((n0 * n1) * n2) 0 (by omega) _ rfl
  · refine hv_iconst h ((-1)) dX4_box_7 (by decide) ?_
    exact hv_iret h hr hlk hQ dX4_box_8 (Or.inl ⟨by simp [c4], rfl, rfl⟩)
abbrev rX4_join : Room := { frames := 2, cells := 0, slots := 0, locals := 45 }
set_option maxHeartbeats 1000000 in
set_option maxRecDepth 100000 in
theorem k_X4_join (l : Launch) (D : va_G) (cI cC : ClassId) (xa xb xc xd xe xf xg xh : Nat × va_E) (tl : va_W) (g : Nat → Nat) (bi wh se pi : Nat → Int32) (d : Nat) (al tp bd : Int32) (s0 : Int32) (a0 : Int32) (b0 : Int32) (w0 : Int32) (hd : d ≤ 12) : hsI l yX4_join wsX4_join rX4_join D vwCl (hsT cI cC) [.ref (g 8), .int s0, .int a0, .int b0, .int w0] (hmW xa xb xc xd xe xf xg xh tl g cI bi wh se pi (nI d) al tp bd) (fun r w => ((hx_in s0 6 && (hx_in a0 6 && (hx_in b0 6 && (!(decide (w0 < 0)) && decide (w0 ≤ 3))))) = false ∧ r = -1 ∧ w = (hmW xa xb xc xd xe xf xg xh tl g cI bi wh se pi (nI d) al tp bd)) ∨ (∃ i0 : Nat, i0 < 6 ∧ s0 = nI i0 ∧ (hx_in s0 6 && (hx_in a0 6 && (hx_in b0 6 && (!(decide (w0 < 0)) && decide (w0 ≤ 3))))) = true ∧ r = hy_cnt (hy_stp (hx_it (fun k b => if hy_jc (hy_has b a0.toNatClampNeg (nI (k / 144)) (nI ((k / 12) % 12)) (nI (k % 12))) (hy_has b b0.toNatClampNeg (nI (k / 144)) (nI ((k / 12) % 12)) (nI (k % 12))) w0 = true then hy_put b (k / 144) ((k / 12) % 12) (nI (k % 12)) else b) 1728 (hy_clr bi)) wh d i0).1 i0 ∧ w = (hmW xa xb xc xd xe xf xg xh tl g cI ((hy_stp (hx_it (fun k b => if hy_jc (hy_has b a0.toNatClampNeg (nI (k / 144)) (nI ((k / 12) % 12)) (nI (k % 12))) (hy_has b b0.toNatClampNeg (nI (k / 144)) (nI ((k / 12) % 12)) (nI (k % 12))) w0 = true then hy_put b (k / 144) ((k / 12) % 12) (nI (k % 12)) else b) 1728 (hy_clr bi)) wh d i0).1) ((hy_stp (hx_it (fun k b => if hy_jc (hy_has b a0.toNatClampNeg (nI (k / 144)) (nI ((k / 12) % 12)) (nI (k % 12))) (hy_has b b0.toNatClampNeg (nI (k / 144)) (nI ((k / 12) % 12)) (nI (k % 12))) w0 = true then hy_put b (k / 144) ((k / 12) % 12) (nI (k % 12)) else b) 1728 (hy_clr bi)) wh d i0).2) se pi (nI (hq_d d + 1)) (nI (hq_d d + 1)) tp bd))) := by
  refine hsI.enter (cc := cX4_join) (maxL := 9) (ret := (some .int)) (by decide) rfl (Nat.le_of_ble_eq_true rfl) ?_
  intro Pg En Ss Mi Ar Be Me Co AA QQ hQ h hr hlk
  refine hs_lv (lv' := [(0, .ref (g 8)), (1, .int s0), (2, .int a0), (3, .int b0), (4, .int w0)]) rfl ?_
  refine hv_iload_n h dX4_join_0 1 rfl rfl ?_
  refine hv_callp (ws' := (hmW xa xb xc xd xe xf xg xh tl g cI bi wh se pi (nI d) al tp bd)) (v := hx_b (hx_in s0 6)) h (hr_Si (n := 1) (rest := []) h (k_X4_isSolid l D cI cC (hmW xa xb xc xd xe xf xg xh tl g cI bi wh se pi (nI d) al tp bd) s0) w_methodLink_X4_45 w_static_X4_isSolid w_initialized_X4 w_code_X4_isSolid (by decide +kernel) rfl rfl rfl ⟨by decide, by decide⟩ rfl (Nat.le_of_ble_eq_true rfl) ⟨Nat.zero_le _, Nat.zero_le _⟩ dX4_join_1) ?_
  refine hv_bif_eq h 32 dX4_join_4 rfl (fun c4 => ?_) (fun c4 => ?_)
  · refine hv_iconst h ((-1)) dX4_join_32 (by decide) ?_
    exact hv_iret h hr hlk hQ dX4_join_33 (Or.inl ⟨by simp [c4], rfl, rfl⟩)
  · refine hv_iload_n h dX4_join_7 2 rfl rfl ?_
    refine hv_callp (ws' := (hmW xa xb xc xd xe xf xg xh tl g cI bi wh se pi (nI d) al tp bd)) (v := hx_b (hx_in a0 6)) h (hr_Si (n := 1) (rest := []) h (k_X4_isSolid l D cI cC (hmW xa xb xc xd xe xf xg xh tl g cI bi wh se pi (nI d) al tp bd) a0) w_methodLink_X4_45 w_static_X4_isSolid w_initialized_X4 w_code_X4_isSolid (by decide +kernel) rfl rfl rfl ⟨by decide, by decide⟩ rfl (Nat.le_of_ble_eq_true rfl) ⟨Nat.zero_le _, Nat.zero_le _⟩ dX4_join_8) ?_
    refine hv_bif_eq h 32 dX4_join_11 rfl (fun c11 => ?_) (fun c11 => ?_)
    · refine hv_iconst h ((-1)) dX4_join_32 (by decide) ?_
      exact hv_iret h hr hlk hQ dX4_join_33 (Or.inl ⟨by simp [c4, c11], rfl, rfl⟩)
    · refine hv_iload_n h dX4_join_14 3 rfl rfl ?_
      refine hv_callp (ws' := (hmW xa xb xc xd xe xf xg xh tl g cI bi wh se pi (nI d) al tp bd)) (v := hx_b (hx_in b0 6)) h (hr_Si (n := 1) (rest := []) h (k_X4_isSolid l D cI cC (hmW xa xb xc xd xe xf xg xh tl g cI bi wh se pi (nI d) al tp bd) b0) w_methodLink_X4_45 w_static_X4_isSolid w_initialized_X4 w_code_X4_isSolid (by decide +kernel) rfl rfl rfl ⟨by decide, by decide⟩ rfl (Nat.le_of_ble_eq_true rfl) ⟨Nat.zero_le _, Nat.zero_le _⟩ dX4_join_15) ?_
      refine hv_bif_eq h 32 dX4_join_18 rfl (fun c18 => ?_) (fun c18 => ?_)
      · refine hv_iconst h ((-1)) dX4_join_32 (by decide) ?_
        exact hv_iret h hr hlk hQ dX4_join_33 (Or.inl ⟨by simp [c4, c11, c18], rfl, rfl⟩)
      · refine hv_iload h dX4_join_21 4 rfl ?_
        refine hv_if_lt h 32 dX4_join_23 rfl (fun c23 => ?_) (fun c23 => ?_)
        · refine hv_iconst h ((-1)) dX4_join_32 (by decide) ?_
          exact hv_iret h hr hlk hQ dX4_join_33 (Or.inl ⟨by simp [c4, c11, c18, c23], rfl, rfl⟩)
        · refine hv_iload h dX4_join_26 4 rfl ?_
          refine hv_iconst h (3) dX4_join_28 (by decide) ?_
          refine hv_icmp_le h 34 dX4_join_29 rfl (fun c29 => ?_) (fun c29 => ?_)
          · obtain ⟨i0, hi0, rfl⟩ := hx_in_nat (n := 6) (by decide) c4
            have hcli0 : (nI i0).toNatClampNeg = i0 := nI_clamp (by omega)
            obtain ⟨i1, hi1, rfl⟩ := hx_in_nat (n := 6) (by decide) c11
            have hcli1 : (nI i1).toNatClampNeg = i1 := nI_clamp (by omega)
            obtain ⟨i2, hi2, rfl⟩ := hx_in_nat (n := 6) (by decide) c18
            have hcli2 : (nI i2).toNatClampNeg = i2 := nI_clamp (by omega)
            refine hv_aload_n h dX4_join_34 0 rfl rfl ?_
            refine hv_callw (ws' := (hmW xa xb xc xd xe xf xg xh tl g cI (hy_clr bi) wh se pi (nI d) al tp bd)) h (hr_Vv (n := 0) (rest := []) h 8 rfl rfl (k_X4_clearDraft l D cI cC xa xb xc xd xe xf xg xh tl g bi wh se pi (nI d) al tp bd  ) w_methodLink_X4_49 w_instanceMethod_X4_clearDraft w_selects_X4_clearDraft w_initialized_X4 w_code_X4_clearDraft (by decide +kernel) rfl rfl rfl ⟨by decide, by decide⟩ rfl (Nat.le_of_ble_eq_true rfl) ⟨Nat.zero_le _, Nat.zero_le _⟩ dX4_join_35) ?_
            refine hv_iconst h (nI 0) dX4_join_38 (by decide) ?_
            refine hv_istore h [(5, .int (nI 0)), (0, .ref (g 8)), (1, .int (nI i0)), (2, .int (nI i1)), (3, .int (nI i2)), (4, .int w0)] dX4_join_39 (by decide) rfl ?_
            have L41 : ∀ d41 k : Nat, k + d41 = 1728 → ∀ (Fbi : Nat → Int32), Fbi = hx_it (fun k b => if hy_jc (hy_has b i1 (nI (k / 144)) (nI ((k / 12) % 12)) (nI (k % 12))) (hy_has b i2 (nI (k / 144)) (nI ((k / 12) % 12)) (nI (k % 12))) w0 = true then hy_put b (k / 144) ((k / 12) % 12) (nI (k % 12)) else b) k (hy_clr bi) → hsV Pg l En rX4_join Ss Mi Ar Be Me Co QQ 9 D vwCl AA Ss.heap 0 0 41 [(5, .int (nI k)), (0, .ref (g 8)), (1, .int (nI i0)), (2, .int (nI i1)), (3, .int (nI i2)), (4, .int w0)] (hmW xa xb xc xd xe xf xg xh tl g cI Fbi wh se pi (nI d) al tp bd) [] := by
              intro d41
              induction d41 with
              | zero =>
                intro k kq41 Fbi e_Fbi
                obtain rfl : k = 1728 := by omega
                refine hv_iload h dX4_join_41 0 rfl ?_
                refine hv_sipush h (nI 1728) dX4_join_43 (by decide) ?_
                refine hv_icmp_ge h 220 dX4_join_46 rfl (fun c46 => ?_) (fun hc => absurd (Int32.le_refl _) hc)
                refine hv_aload_n h dX4_join_220 1 rfl rfl ?_
                refine hv_iload_n h dX4_join_221 2 rfl rfl ?_
                refine hv_callp (ws' := (hmW xa xb xc xd xe xf xg xh tl g cI ((hy_stp Fbi wh d i0).1) ((hy_stp Fbi wh d i0).2) se pi (nI (hq_d d + 1)) (nI (hq_d d + 1)) tp bd)) (v := hy_cnt (hy_stp Fbi wh d i0).1 i0) h (hr_Vi (n := 1) (rest := []) h 8 rfl rfl (k_X4_step l D cI cC xa xb xc xd xe xf xg xh tl g Fbi wh se pi d al tp bd i0 hi0 hd) w_methodLink_X4_56 w_instanceMethod_X4_step w_selects_X4_step w_initialized_X4 w_code_X4_step (by decide +kernel) rfl rfl rfl ⟨by decide, by decide⟩ rfl (Nat.le_of_ble_eq_true rfl) ⟨Nat.zero_le _, Nat.zero_le _⟩ dX4_join_222) ?_
                exact hv_iret h hr hlk hQ dX4_join_225 (Or.inr (⟨i0, hi0, rfl, by simp [c4, c11, c18, c23, c29, hcli0, hcli1, hcli2, c46], by rw [e_Fbi]; simp only [hcli1, hcli2]; first | done | rfl, by rw [e_Fbi]; simp only [hcli1, hcli2]; first | done | rfl⟩))
              | succ d41 ih41 =>
                intro k kq41 Fbi e_Fbi
                have hlt41 : k < 1728 := by omega
                refine hv_iload h dX4_join_41 0 rfl ?_
                refine hv_sipush h (nI 1728) dX4_join_43 (by decide) ?_
                refine hv_icmp_ge h 220 dX4_join_46 rfl (fun hc => absurd hc (nI_ge hlt41 (by decide))) (fun c46 => ?_)
                refine hv_aload_n h dX4_join_49 1 rfl rfl ?_
                refine hv_iload_n h dX4_join_50 3 rfl rfl ?_
                refine hv_iload h dX4_join_51 0 rfl ?_
                refine hv_sipush h (144) dX4_join_53 (by decide) ?_
                refine hw_idiv h (nI (k / 144)) dX4_join_56 (by decide) (pk_div (by omega) (by decide) (by decide)) ?_
                refine hv_iload h dX4_join_57 0 rfl ?_
                refine hv_bipush h (12) dX4_join_59 (by decide) ?_
                refine hw_idiv h (nI (k / 12)) dX4_join_61 (by decide) (pk_div (by omega) (by decide) (by decide)) ?_
                refine hv_bipush h (12) dX4_join_62 (by decide) ?_
                refine hw_irem h (nI ((k / 12) % 12)) dX4_join_64 (by decide) (pk_rem (by omega) (by decide) (by decide)) ?_
                refine hv_iload h dX4_join_65 0 rfl ?_
                refine hv_bipush h (12) dX4_join_67 (by decide) ?_
                refine hw_irem h (nI (k % 12)) dX4_join_69 (by decide) (pk_rem (by omega) (by decide) (by decide)) ?_
                refine hv_callp (ws' := (hmW xa xb xc xd xe xf xg xh tl g cI Fbi wh se pi (nI d) al tp bd)) (v := hx_b (hy_has Fbi i1 (nI (k / 144)) (nI ((k / 12) % 12)) (nI (k % 12)))) h (hr_Vi (n := 4) (rest := []) h 8 rfl rfl (k_X4_has l D cI cC xa xb xc xd xe xf xg xh tl g Fbi wh se pi (nI d) al tp bd i1 (nI (k / 144)) (nI ((k / 12) % 12)) (nI (k % 12)) (by omega)) w_methodLink_X4_26 w_instanceMethod_X4_has w_selects_X4_has w_initialized_X4 w_code_X4_has (by decide +kernel) rfl rfl rfl ⟨by decide, by decide⟩ rfl (Nat.le_of_ble_eq_true rfl) ⟨Nat.zero_le _, Nat.zero_le _⟩ dX4_join_70) ?_
                refine hv_istore h [(6, .int (hx_b (hy_has Fbi i1 (nI (k / 144)) (nI ((k / 12) % 12)) (nI (k % 12))))), (5, .int (nI k)), (0, .ref (g 8)), (1, .int (nI i0)), (2, .int (nI i1)), (3, .int (nI i2)), (4, .int w0)] dX4_join_73 (by decide) rfl ?_
                refine hv_aload_n h dX4_join_75 2 rfl rfl ?_
                refine hv_iload_n h dX4_join_76 5 rfl rfl ?_
                refine hv_iload h dX4_join_77 1 rfl ?_
                refine hv_sipush h (144) dX4_join_79 (by decide) ?_
                refine hw_idiv h (nI (k / 144)) dX4_join_82 (by decide) (pk_div (by omega) (by decide) (by decide)) ?_
                refine hv_iload h dX4_join_83 1 rfl ?_
                refine hv_bipush h (12) dX4_join_85 (by decide) ?_
                refine hw_idiv h (nI (k / 12)) dX4_join_87 (by decide) (pk_div (by omega) (by decide) (by decide)) ?_
                refine hv_bipush h (12) dX4_join_88 (by decide) ?_
                refine hw_irem h (nI ((k / 12) % 12)) dX4_join_90 (by decide) (pk_rem (by omega) (by decide) (by decide)) ?_
                refine hv_iload h dX4_join_91 1 rfl ?_
                refine hv_bipush h (12) dX4_join_93 (by decide) ?_
                refine hw_irem h (nI (k % 12)) dX4_join_95 (by decide) (pk_rem (by omega) (by decide) (by decide)) ?_
                refine hv_callp (ws' := (hmW xa xb xc xd xe xf xg xh tl g cI Fbi wh se pi (nI d) al tp bd)) (v := hx_b (hy_has Fbi i2 (nI (k / 144)) (nI ((k / 12) % 12)) (nI (k % 12)))) h (hr_Vi (n := 4) (rest := []) h 8 rfl rfl (k_X4_has l D cI cC xa xb xc xd xe xf xg xh tl g Fbi wh se pi (nI d) al tp bd i2 (nI (k / 144)) (nI ((k / 12) % 12)) (nI (k % 12)) (by omega)) w_methodLink_X4_26 w_instanceMethod_X4_has w_selects_X4_has w_initialized_X4 w_code_X4_has (by decide +kernel) rfl rfl rfl ⟨by decide, by decide⟩ rfl (Nat.le_of_ble_eq_true rfl) ⟨Nat.zero_le _, Nat.zero_le _⟩ dX4_join_96) ?_
                refine hv_istore h [(7, .int (hx_b (hy_has Fbi i2 (nI (k / 144)) (nI ((k / 12) % 12)) (nI (k % 12))))), (6, .int (hx_b (hy_has Fbi i1 (nI (k / 144)) (nI ((k / 12) % 12)) (nI (k % 12))))), (5, .int (nI k)), (0, .ref (g 8)), (1, .int (nI i0)), (2, .int (nI i1)), (3, .int (nI i2)), (4, .int w0)] dX4_join_99 (by decide) rfl ?_
                refine hv_iload h dX4_join_101 7 rfl ?_
                refine hv_if_ne h 124 dX4_join_103 rfl (fun c103 => ?_) (fun c103 => ?_)
                · refine hv_iload h dX4_join_124 7 rfl ?_
                  refine hv_iconst h (1) dX4_join_126 (by decide) ?_
                  refine hv_icmp_ne h 148 dX4_join_127 rfl (fun c127 => ?_) (fun c127 => ?_)
                  · refine hv_iload h dX4_join_148 7 rfl ?_
                    refine hv_iconst h (2) dX4_join_150 (by decide) ?_
                    refine hv_icmp_ne h 172 dX4_join_151 rfl (fun c151 => ?_) (fun c151 => ?_)
                    · refine hv_iload h dX4_join_172 1 rfl ?_
                      refine hv_iload h dX4_join_174 0 rfl ?_
                      refine hv_icmp_eq h 183 dX4_join_176 rfl (fun c176 => ?_) (fun c176 => ?_)
                      · refine hv_iconst h (0) dX4_join_183 (by decide) ?_
                        refine hv_istore h [(8, .int 0), (7, .int (hx_b (hy_has Fbi i2 (nI (k / 144)) (nI ((k / 12) % 12)) (nI (k % 12))))), (6, .int (hx_b (hy_has Fbi i1 (nI (k / 144)) (nI ((k / 12) % 12)) (nI (k % 12))))), (5, .int (nI k)), (0, .ref (g 8)), (1, .int (nI i0)), (2, .int (nI i1)), (3, .int (nI i2)), (4, .int w0)] dX4_join_184 (by decide) rfl ?_
                        refine hv_iload h dX4_join_186 0 rfl ?_
                        refine hv_if_eq h 214 dX4_join_188 rfl (fun c188 => ?_) (fun hc => absurd (by decide) hc)
                        refine hv_iinc h (nI (k + 1)) [(5, .int (nI (k + 1))), (8, .int 0), (7, .int (hx_b (hy_has Fbi i2 (nI (k / 144)) (nI ((k / 12) % 12)) (nI (k % 12))))), (6, .int (hx_b (hy_has Fbi i1 (nI (k / 144)) (nI ((k / 12) % 12)) (nI (k % 12))))), (0, .ref (g 8)), (1, .int (nI i0)), (2, .int (nI i1)), (3, .int (nI i2)), (4, .int w0)] dX4_join_214 3 rfl (hs_inc _) (by decide) rfl ?_
                        refine hv_goto h 41 dX4_join_217 rfl ?_
                        refine hs_pick (lv' := [(5, .int (nI (k + 1))), (0, .ref (g 8)), (1, .int (nI i0)), (2, .int (nI i1)), (3, .int (nI i2)), (4, .int w0)]) [0, 4, 5, 6, 7, 8] rfl ?_
                        exact ih41 (k + 1) (by omega) _ (by rw [hx_it_s, ← e_Fbi]; simp [hy_jc, c103, c127, c151, hx_xf c176])
                      · refine hv_iconst h (1) dX4_join_179 (by decide) ?_
                        refine hv_goto h 184 dX4_join_180 rfl ?_
                        refine hv_istore h [(8, .int 1), (7, .int (hx_b (hy_has Fbi i2 (nI (k / 144)) (nI ((k / 12) % 12)) (nI (k % 12))))), (6, .int (hx_b (hy_has Fbi i1 (nI (k / 144)) (nI ((k / 12) % 12)) (nI (k % 12))))), (5, .int (nI k)), (0, .ref (g 8)), (1, .int (nI i0)), (2, .int (nI i1)), (3, .int (nI i2)), (4, .int w0)] dX4_join_184 (by decide) rfl ?_
                        refine hv_iload h dX4_join_186 0 rfl ?_
                        refine hv_if_eq h 214 dX4_join_188 rfl (fun hc => absurd hc (by decide)) (fun c188 => ?_)
                        refine hv_aload_n h dX4_join_191 4 rfl rfl ?_
                        refine hv_iload h dX4_join_192 3 rfl ?_
                        refine hv_sipush h (144) dX4_join_194 (by decide) ?_
                        refine hw_idiv h (nI (k / 144)) dX4_join_197 (by decide) (pk_div (by omega) (by decide) (by decide)) ?_
                        refine hv_iload h dX4_join_198 3 rfl ?_
                        refine hv_bipush h (12) dX4_join_200 (by decide) ?_
                        refine hw_idiv h (nI (k / 12)) dX4_join_202 (by decide) (pk_div (by omega) (by decide) (by decide)) ?_
                        refine hv_bipush h (12) dX4_join_203 (by decide) ?_
                        refine hw_irem h (nI ((k / 12) % 12)) dX4_join_205 (by decide) (pk_rem (by omega) (by decide) (by decide)) ?_
                        refine hv_iload h dX4_join_206 3 rfl ?_
                        refine hv_bipush h (12) dX4_join_208 (by decide) ?_
                        refine hw_irem h (nI (k % 12)) dX4_join_210 (by decide) (pk_rem (by omega) (by decide) (by decide)) ?_
                        refine hv_callw (ws' := (hmW xa xb xc xd xe xf xg xh tl g cI (hy_put Fbi (k / 144) ((k / 12) % 12) (nI (k % 12))) wh se pi (nI d) al tp bd)) h (hr_Vv (n := 3) (rest := []) h 8 rfl rfl (k_X4_put l D cI cC xa xb xc xd xe xf xg xh tl g Fbi wh se pi (nI d) al tp bd (k / 144) ((k / 12) % 12) (nI (k % 12)) (by omega) (by omega)) w_methodLink_X4_52 w_instanceMethod_X4_put w_selects_X4_put w_initialized_X4 w_code_X4_put (by decide +kernel) rfl rfl rfl ⟨by decide, by decide⟩ rfl (Nat.le_of_ble_eq_true rfl) ⟨Nat.zero_le _, Nat.zero_le _⟩ dX4_join_211) ?_
                        refine hv_iinc h (nI (k + 1)) [(5, .int (nI (k + 1))), (8, .int 1), (7, .int (hx_b (hy_has Fbi i2 (nI (k / 144)) (nI ((k / 12) % 12)) (nI (k % 12))))), (6, .int (hx_b (hy_has Fbi i1 (nI (k / 144)) (nI ((k / 12) % 12)) (nI (k % 12))))), (0, .ref (g 8)), (1, .int (nI i0)), (2, .int (nI i1)), (3, .int (nI i2)), (4, .int w0)] dX4_join_214 3 rfl (hs_inc _) (by decide) rfl ?_
                        refine hv_goto h 41 dX4_join_217 rfl ?_
                        refine hs_pick (lv' := [(5, .int (nI (k + 1))), (0, .ref (g 8)), (1, .int (nI i0)), (2, .int (nI i1)), (3, .int (nI i2)), (4, .int w0)]) [0, 4, 5, 6, 7, 8] rfl ?_
                        exact ih41 (k + 1) (by omega) _ (by rw [hx_it_s, ← e_Fbi]; simp [hy_jc, c103, c127, c151, hx_xt c176])
                    · refine hv_iload h dX4_join_154 1 rfl ?_
                      refine hv_bif_eq h 168 dX4_join_156 rfl (fun c156 => ?_) (fun c156 => ?_)
                      · refine hv_iconst h (0) dX4_join_168 (by decide) ?_
                        refine hv_goto h 184 dX4_join_169 rfl ?_
                        refine hv_istore h [(8, .int 0), (7, .int (hx_b (hy_has Fbi i2 (nI (k / 144)) (nI ((k / 12) % 12)) (nI (k % 12))))), (6, .int (hx_b (hy_has Fbi i1 (nI (k / 144)) (nI ((k / 12) % 12)) (nI (k % 12))))), (5, .int (nI k)), (0, .ref (g 8)), (1, .int (nI i0)), (2, .int (nI i1)), (3, .int (nI i2)), (4, .int w0)] dX4_join_184 (by decide) rfl ?_
                        refine hv_iload h dX4_join_186 0 rfl ?_
                        refine hv_if_eq h 214 dX4_join_188 rfl (fun c188 => ?_) (fun hc => absurd (by decide) hc)
                        refine hv_iinc h (nI (k + 1)) [(5, .int (nI (k + 1))), (8, .int 0), (7, .int (hx_b (hy_has Fbi i2 (nI (k / 144)) (nI ((k / 12) % 12)) (nI (k % 12))))), (6, .int (hx_b (hy_has Fbi i1 (nI (k / 144)) (nI ((k / 12) % 12)) (nI (k % 12))))), (0, .ref (g 8)), (1, .int (nI i0)), (2, .int (nI i1)), (3, .int (nI i2)), (4, .int w0)] dX4_join_214 3 rfl (hs_inc _) (by decide) rfl ?_
                        refine hv_goto h 41 dX4_join_217 rfl ?_
                        refine hs_pick (lv' := [(5, .int (nI (k + 1))), (0, .ref (g 8)), (1, .int (nI i0)), (2, .int (nI i1)), (3, .int (nI i2)), (4, .int w0)]) [0, 4, 5, 6, 7, 8] rfl ?_
                        exact ih41 (k + 1) (by omega) _ (by rw [hx_it_s, ← e_Fbi]; simp [hy_jc, c103, c127, c151, c156])
                      · refine hv_iload h dX4_join_159 0 rfl ?_
                        refine hv_bif_ne h 168 dX4_join_161 rfl (fun c161 => ?_) (fun c161 => ?_)
                        · refine hv_iconst h (0) dX4_join_168 (by decide) ?_
                          refine hv_goto h 184 dX4_join_169 rfl ?_
                          refine hv_istore h [(8, .int 0), (7, .int (hx_b (hy_has Fbi i2 (nI (k / 144)) (nI ((k / 12) % 12)) (nI (k % 12))))), (6, .int (hx_b (hy_has Fbi i1 (nI (k / 144)) (nI ((k / 12) % 12)) (nI (k % 12))))), (5, .int (nI k)), (0, .ref (g 8)), (1, .int (nI i0)), (2, .int (nI i1)), (3, .int (nI i2)), (4, .int w0)] dX4_join_184 (by decide) rfl ?_
                          refine hv_iload h dX4_join_186 0 rfl ?_
                          refine hv_if_eq h 214 dX4_join_188 rfl (fun c188 => ?_) (fun hc => absurd (by decide) hc)
                          refine hv_iinc h (nI (k + 1)) [(5, .int (nI (k + 1))), (8, .int 0), (7, .int (hx_b (hy_has Fbi i2 (nI (k / 144)) (nI ((k / 12) % 12)) (nI (k % 12))))), (6, .int (hx_b (hy_has Fbi i1 (nI (k / 144)) (nI ((k / 12) % 12)) (nI (k % 12))))), (0, .ref (g 8)), (1, .int (nI i0)), (2, .int (nI i1)), (3, .int (nI i2)), (4, .int w0)] dX4_join_214 3 rfl (hs_inc _) (by decide) rfl ?_
                          refine hv_goto h 41 dX4_join_217 rfl ?_
                          refine hs_pick (lv' := [(5, .int (nI (k + 1))), (0, .ref (g 8)), (1, .int (nI i0)), (2, .int (nI i1)), (3, .int (nI i2)), (4, .int w0)]) [0, 4, 5, 6, 7, 8] rfl ?_
                          exact ih41 (k + 1) (by omega) _ (by rw [hx_it_s, ← e_Fbi]; simp [hy_jc, c103, c127, c151, c156, c161])
                        · refine hv_iconst h (1) dX4_join_164 (by decide) ?_
                          refine hv_goto h 184 dX4_join_165 rfl ?_
                          refine hv_istore h [(8, .int 1), (7, .int (hx_b (hy_has Fbi i2 (nI (k / 144)) (nI ((k / 12) % 12)) (nI (k % 12))))), (6, .int (hx_b (hy_has Fbi i1 (nI (k / 144)) (nI ((k / 12) % 12)) (nI (k % 12))))), (5, .int (nI k)), (0, .ref (g 8)), (1, .int (nI i0)), (2, .int (nI i1)), (3, .int (nI i2)), (4, .int w0)] dX4_join_184 (by decide) rfl ?_
                          refine hv_iload h dX4_join_186 0 rfl ?_
                          refine hv_if_eq h 214 dX4_join_188 rfl (fun hc => absurd hc (by decide)) (fun c188 => ?_)
                          refine hv_aload_n h dX4_join_191 4 rfl rfl ?_
                          refine hv_iload h dX4_join_192 3 rfl ?_
                          refine hv_sipush h (144) dX4_join_194 (by decide) ?_
                          refine hw_idiv h (nI (k / 144)) dX4_join_197 (by decide) (pk_div (by omega) (by decide) (by decide)) ?_
                          refine hv_iload h dX4_join_198 3 rfl ?_
                          refine hv_bipush h (12) dX4_join_200 (by decide) ?_
                          refine hw_idiv h (nI (k / 12)) dX4_join_202 (by decide) (pk_div (by omega) (by decide) (by decide)) ?_
                          refine hv_bipush h (12) dX4_join_203 (by decide) ?_
                          refine hw_irem h (nI ((k / 12) % 12)) dX4_join_205 (by decide) (pk_rem (by omega) (by decide) (by decide)) ?_
                          refine hv_iload h dX4_join_206 3 rfl ?_
                          refine hv_bipush h (12) dX4_join_208 (by decide) ?_
                          refine hw_irem h (nI (k % 12)) dX4_join_210 (by decide) (pk_rem (by omega) (by decide) (by decide)) ?_
                          refine hv_callw (ws' := (hmW xa xb xc xd xe xf xg xh tl g cI (hy_put Fbi (k / 144) ((k / 12) % 12) (nI (k % 12))) wh se pi (nI d) al tp bd)) h (hr_Vv (n := 3) (rest := []) h 8 rfl rfl (k_X4_put l D cI cC xa xb xc xd xe xf xg xh tl g Fbi wh se pi (nI d) al tp bd (k / 144) ((k / 12) % 12) (nI (k % 12)) (by omega) (by omega)) w_methodLink_X4_52 w_instanceMethod_X4_put w_selects_X4_put w_initialized_X4 w_code_X4_put (by decide +kernel) rfl rfl rfl ⟨by decide, by decide⟩ rfl (Nat.le_of_ble_eq_true rfl) ⟨Nat.zero_le _, Nat.zero_le _⟩ dX4_join_211) ?_
                          refine hv_iinc h (nI (k + 1)) [(5, .int (nI (k + 1))), (8, .int 1), (7, .int (hx_b (hy_has Fbi i2 (nI (k / 144)) (nI ((k / 12) % 12)) (nI (k % 12))))), (6, .int (hx_b (hy_has Fbi i1 (nI (k / 144)) (nI ((k / 12) % 12)) (nI (k % 12))))), (0, .ref (g 8)), (1, .int (nI i0)), (2, .int (nI i1)), (3, .int (nI i2)), (4, .int w0)] dX4_join_214 3 rfl (hs_inc _) (by decide) rfl ?_
                          refine hv_goto h 41 dX4_join_217 rfl ?_
                          refine hs_pick (lv' := [(5, .int (nI (k + 1))), (0, .ref (g 8)), (1, .int (nI i0)), (2, .int (nI i1)), (3, .int (nI i2)), (4, .int w0)]) [0, 4, 5, 6, 7, 8] rfl ?_
                          exact ih41 (k + 1) (by omega) _ (by rw [hx_it_s, ← e_Fbi]; simp [hy_jc, c103, c127, c151, c156, c161])
                  · refine hv_iload h dX4_join_130 1 rfl ?_
                    refine hv_bif_eq h 144 dX4_join_132 rfl (fun c132 => ?_) (fun c132 => ?_)
                    · refine hv_iconst h (0) dX4_join_144 (by decide) ?_
                      refine hv_goto h 184 dX4_join_145 rfl ?_
                      refine hv_istore h [(8, .int 0), (7, .int (hx_b (hy_has Fbi i2 (nI (k / 144)) (nI ((k / 12) % 12)) (nI (k % 12))))), (6, .int (hx_b (hy_has Fbi i1 (nI (k / 144)) (nI ((k / 12) % 12)) (nI (k % 12))))), (5, .int (nI k)), (0, .ref (g 8)), (1, .int (nI i0)), (2, .int (nI i1)), (3, .int (nI i2)), (4, .int w0)] dX4_join_184 (by decide) rfl ?_
                      refine hv_iload h dX4_join_186 0 rfl ?_
                      refine hv_if_eq h 214 dX4_join_188 rfl (fun c188 => ?_) (fun hc => absurd (by decide) hc)
                      refine hv_iinc h (nI (k + 1)) [(5, .int (nI (k + 1))), (8, .int 0), (7, .int (hx_b (hy_has Fbi i2 (nI (k / 144)) (nI ((k / 12) % 12)) (nI (k % 12))))), (6, .int (hx_b (hy_has Fbi i1 (nI (k / 144)) (nI ((k / 12) % 12)) (nI (k % 12))))), (0, .ref (g 8)), (1, .int (nI i0)), (2, .int (nI i1)), (3, .int (nI i2)), (4, .int w0)] dX4_join_214 3 rfl (hs_inc _) (by decide) rfl ?_
                      refine hv_goto h 41 dX4_join_217 rfl ?_
                      refine hs_pick (lv' := [(5, .int (nI (k + 1))), (0, .ref (g 8)), (1, .int (nI i0)), (2, .int (nI i1)), (3, .int (nI i2)), (4, .int w0)]) [0, 4, 5, 6, 7, 8] rfl ?_
                      exact ih41 (k + 1) (by omega) _ (by rw [hx_it_s, ← e_Fbi]; simp [hy_jc, c103, c127, c132])
                    · refine hv_iload h dX4_join_135 0 rfl ?_
                      refine hv_bif_eq h 144 dX4_join_137 rfl (fun c137 => ?_) (fun c137 => ?_)
                      · refine hv_iconst h (0) dX4_join_144 (by decide) ?_
                        refine hv_goto h 184 dX4_join_145 rfl ?_
                        refine hv_istore h [(8, .int 0), (7, .int (hx_b (hy_has Fbi i2 (nI (k / 144)) (nI ((k / 12) % 12)) (nI (k % 12))))), (6, .int (hx_b (hy_has Fbi i1 (nI (k / 144)) (nI ((k / 12) % 12)) (nI (k % 12))))), (5, .int (nI k)), (0, .ref (g 8)), (1, .int (nI i0)), (2, .int (nI i1)), (3, .int (nI i2)), (4, .int w0)] dX4_join_184 (by decide) rfl ?_
                        refine hv_iload h dX4_join_186 0 rfl ?_
                        refine hv_if_eq h 214 dX4_join_188 rfl (fun c188 => ?_) (fun hc => absurd (by decide) hc)
                        refine hv_iinc h (nI (k + 1)) [(5, .int (nI (k + 1))), (8, .int 0), (7, .int (hx_b (hy_has Fbi i2 (nI (k / 144)) (nI ((k / 12) % 12)) (nI (k % 12))))), (6, .int (hx_b (hy_has Fbi i1 (nI (k / 144)) (nI ((k / 12) % 12)) (nI (k % 12))))), (0, .ref (g 8)), (1, .int (nI i0)), (2, .int (nI i1)), (3, .int (nI i2)), (4, .int w0)] dX4_join_214 3 rfl (hs_inc _) (by decide) rfl ?_
                        refine hv_goto h 41 dX4_join_217 rfl ?_
                        refine hs_pick (lv' := [(5, .int (nI (k + 1))), (0, .ref (g 8)), (1, .int (nI i0)), (2, .int (nI i1)), (3, .int (nI i2)), (4, .int w0)]) [0, 4, 5, 6, 7, 8] rfl ?_
                        exact ih41 (k + 1) (by omega) _ (by rw [hx_it_s, ← e_Fbi]; simp [hy_jc, c103, c127, c132, c137])
                      · refine hv_iconst h (1) dX4_join_140 (by decide) ?_
                        refine hv_goto h 184 dX4_join_141 rfl ?_
                        refine hv_istore h [(8, .int 1), (7, .int (hx_b (hy_has Fbi i2 (nI (k / 144)) (nI ((k / 12) % 12)) (nI (k % 12))))), (6, .int (hx_b (hy_has Fbi i1 (nI (k / 144)) (nI ((k / 12) % 12)) (nI (k % 12))))), (5, .int (nI k)), (0, .ref (g 8)), (1, .int (nI i0)), (2, .int (nI i1)), (3, .int (nI i2)), (4, .int w0)] dX4_join_184 (by decide) rfl ?_
                        refine hv_iload h dX4_join_186 0 rfl ?_
                        refine hv_if_eq h 214 dX4_join_188 rfl (fun hc => absurd hc (by decide)) (fun c188 => ?_)
                        refine hv_aload_n h dX4_join_191 4 rfl rfl ?_
                        refine hv_iload h dX4_join_192 3 rfl ?_
                        refine hv_sipush h (144) dX4_join_194 (by decide) ?_
                        refine hw_idiv h (nI (k / 144)) dX4_join_197 (by decide) (pk_div (by omega) (by decide) (by decide)) ?_
                        refine hv_iload h dX4_join_198 3 rfl ?_
                        refine hv_bipush h (12) dX4_join_200 (by decide) ?_
                        refine hw_idiv h (nI (k / 12)) dX4_join_202 (by decide) (pk_div (by omega) (by decide) (by decide)) ?_
                        refine hv_bipush h (12) dX4_join_203 (by decide) ?_
                        refine hw_irem h (nI ((k / 12) % 12)) dX4_join_205 (by decide) (pk_rem (by omega) (by decide) (by decide)) ?_
                        refine hv_iload h dX4_join_206 3 rfl ?_
                        refine hv_bipush h (12) dX4_join_208 (by decide) ?_
                        refine hw_irem h (nI (k % 12)) dX4_join_210 (by decide) (pk_rem (by omega) (by decide) (by decide)) ?_
                        refine hv_callw (ws' := (hmW xa xb xc xd xe xf xg xh tl g cI (hy_put Fbi (k / 144) ((k / 12) % 12) (nI (k % 12))) wh se pi (nI d) al tp bd)) h (hr_Vv (n := 3) (rest := []) h 8 rfl rfl (k_X4_put l D cI cC xa xb xc xd xe xf xg xh tl g Fbi wh se pi (nI d) al tp bd (k / 144) ((k / 12) % 12) (nI (k % 12)) (by omega) (by omega)) w_methodLink_X4_52 w_instanceMethod_X4_put w_selects_X4_put w_initialized_X4 w_code_X4_put (by decide +kernel) rfl rfl rfl ⟨by decide, by decide⟩ rfl (Nat.le_of_ble_eq_true rfl) ⟨Nat.zero_le _, Nat.zero_le _⟩ dX4_join_211) ?_
                        refine hv_iinc h (nI (k + 1)) [(5, .int (nI (k + 1))), (8, .int 1), (7, .int (hx_b (hy_has Fbi i2 (nI (k / 144)) (nI ((k / 12) % 12)) (nI (k % 12))))), (6, .int (hx_b (hy_has Fbi i1 (nI (k / 144)) (nI ((k / 12) % 12)) (nI (k % 12))))), (0, .ref (g 8)), (1, .int (nI i0)), (2, .int (nI i1)), (3, .int (nI i2)), (4, .int w0)] dX4_join_214 3 rfl (hs_inc _) (by decide) rfl ?_
                        refine hv_goto h 41 dX4_join_217 rfl ?_
                        refine hs_pick (lv' := [(5, .int (nI (k + 1))), (0, .ref (g 8)), (1, .int (nI i0)), (2, .int (nI i1)), (3, .int (nI i2)), (4, .int w0)]) [0, 4, 5, 6, 7, 8] rfl ?_
                        exact ih41 (k + 1) (by omega) _ (by rw [hx_it_s, ← e_Fbi]; simp [hy_jc, c103, c127, c132, c137])
                · refine hv_iload h dX4_join_106 1 rfl ?_
                  refine hv_bif_ne h 116 dX4_join_108 rfl (fun c108 => ?_) (fun c108 => ?_)
                  · refine hv_iconst h (1) dX4_join_116 (by decide) ?_
                    refine hv_goto h 184 dX4_join_117 rfl ?_
                    refine hv_istore h [(8, .int 1), (7, .int (hx_b (hy_has Fbi i2 (nI (k / 144)) (nI ((k / 12) % 12)) (nI (k % 12))))), (6, .int (hx_b (hy_has Fbi i1 (nI (k / 144)) (nI ((k / 12) % 12)) (nI (k % 12))))), (5, .int (nI k)), (0, .ref (g 8)), (1, .int (nI i0)), (2, .int (nI i1)), (3, .int (nI i2)), (4, .int w0)] dX4_join_184 (by decide) rfl ?_
                    refine hv_iload h dX4_join_186 0 rfl ?_
                    refine hv_if_eq h 214 dX4_join_188 rfl (fun hc => absurd hc (by decide)) (fun c188 => ?_)
                    refine hv_aload_n h dX4_join_191 4 rfl rfl ?_
                    refine hv_iload h dX4_join_192 3 rfl ?_
                    refine hv_sipush h (144) dX4_join_194 (by decide) ?_
                    refine hw_idiv h (nI (k / 144)) dX4_join_197 (by decide) (pk_div (by omega) (by decide) (by decide)) ?_
                    refine hv_iload h dX4_join_198 3 rfl ?_
                    refine hv_bipush h (12) dX4_join_200 (by decide) ?_
                    refine hw_idiv h (nI (k / 12)) dX4_join_202 (by decide) (pk_div (by omega) (by decide) (by decide)) ?_
                    refine hv_bipush h (12) dX4_join_203 (by decide) ?_
                    refine hw_irem h (nI ((k / 12) % 12)) dX4_join_205 (by decide) (pk_rem (by omega) (by decide) (by decide)) ?_
                    refine hv_iload h dX4_join_206 3 rfl ?_
                    refine hv_bipush h (12) dX4_join_208 (by decide) ?_
                    refine hw_irem h (nI (k % 12)) dX4_join_210 (by decide) (pk_rem (by omega) (by decide) (by decide)) ?_
                    refine hv_callw (ws' := (hmW xa xb xc xd xe xf xg xh tl g cI (hy_put Fbi (k / 144) ((k / 12) % 12) (nI (k % 12))) wh se pi (nI d) al tp bd)) h (hr_Vv (n := 3) (rest := []) h 8 rfl rfl (k_X4_put l D cI cC xa xb xc xd xe xf xg xh tl g Fbi wh se pi (nI d) al tp bd (k / 144) ((k / 12) % 12) (nI (k % 12)) (by omega) (by omega)) w_methodLink_X4_52 w_instanceMethod_X4_put w_selects_X4_put w_initialized_X4 w_code_X4_put (by decide +kernel) rfl rfl rfl ⟨by decide, by decide⟩ rfl (Nat.le_of_ble_eq_true rfl) ⟨Nat.zero_le _, Nat.zero_le _⟩ dX4_join_211) ?_
                    refine hv_iinc h (nI (k + 1)) [(5, .int (nI (k + 1))), (8, .int 1), (7, .int (hx_b (hy_has Fbi i2 (nI (k / 144)) (nI ((k / 12) % 12)) (nI (k % 12))))), (6, .int (hx_b (hy_has Fbi i1 (nI (k / 144)) (nI ((k / 12) % 12)) (nI (k % 12))))), (0, .ref (g 8)), (1, .int (nI i0)), (2, .int (nI i1)), (3, .int (nI i2)), (4, .int w0)] dX4_join_214 3 rfl (hs_inc _) (by decide) rfl ?_
                    refine hv_goto h 41 dX4_join_217 rfl ?_
                    refine hs_pick (lv' := [(5, .int (nI (k + 1))), (0, .ref (g 8)), (1, .int (nI i0)), (2, .int (nI i1)), (3, .int (nI i2)), (4, .int w0)]) [0, 4, 5, 6, 7, 8] rfl ?_
                    exact ih41 (k + 1) (by omega) _ (by rw [hx_it_s, ← e_Fbi]; simp [hy_jc, c103, c108])
                  · refine hv_iload h dX4_join_111 0 rfl ?_
                    refine hv_bif_eq h 120 dX4_join_113 rfl (fun c113 => ?_) (fun c113 => ?_)
                    · refine hv_iconst h (0) dX4_join_120 (by decide) ?_
                      refine hv_goto h 184 dX4_join_121 rfl ?_
                      refine hv_istore h [(8, .int 0), (7, .int (hx_b (hy_has Fbi i2 (nI (k / 144)) (nI ((k / 12) % 12)) (nI (k % 12))))), (6, .int (hx_b (hy_has Fbi i1 (nI (k / 144)) (nI ((k / 12) % 12)) (nI (k % 12))))), (5, .int (nI k)), (0, .ref (g 8)), (1, .int (nI i0)), (2, .int (nI i1)), (3, .int (nI i2)), (4, .int w0)] dX4_join_184 (by decide) rfl ?_
                      refine hv_iload h dX4_join_186 0 rfl ?_
                      refine hv_if_eq h 214 dX4_join_188 rfl (fun c188 => ?_) (fun hc => absurd (by decide) hc)
                      refine hv_iinc h (nI (k + 1)) [(5, .int (nI (k + 1))), (8, .int 0), (7, .int (hx_b (hy_has Fbi i2 (nI (k / 144)) (nI ((k / 12) % 12)) (nI (k % 12))))), (6, .int (hx_b (hy_has Fbi i1 (nI (k / 144)) (nI ((k / 12) % 12)) (nI (k % 12))))), (0, .ref (g 8)), (1, .int (nI i0)), (2, .int (nI i1)), (3, .int (nI i2)), (4, .int w0)] dX4_join_214 3 rfl (hs_inc _) (by decide) rfl ?_
                      refine hv_goto h 41 dX4_join_217 rfl ?_
                      refine hs_pick (lv' := [(5, .int (nI (k + 1))), (0, .ref (g 8)), (1, .int (nI i0)), (2, .int (nI i1)), (3, .int (nI i2)), (4, .int w0)]) [0, 4, 5, 6, 7, 8] rfl ?_
                      exact ih41 (k + 1) (by omega) _ (by rw [hx_it_s, ← e_Fbi]; simp [hy_jc, c103, c108, c113])
                    · refine hv_iconst h (1) dX4_join_116 (by decide) ?_
                      refine hv_goto h 184 dX4_join_117 rfl ?_
                      refine hv_istore h [(8, .int 1), (7, .int (hx_b (hy_has Fbi i2 (nI (k / 144)) (nI ((k / 12) % 12)) (nI (k % 12))))), (6, .int (hx_b (hy_has Fbi i1 (nI (k / 144)) (nI ((k / 12) % 12)) (nI (k % 12))))), (5, .int (nI k)), (0, .ref (g 8)), (1, .int (nI i0)), (2, .int (nI i1)), (3, .int (nI i2)), (4, .int w0)] dX4_join_184 (by decide) rfl ?_
                      refine hv_iload h dX4_join_186 0 rfl ?_
                      refine hv_if_eq h 214 dX4_join_188 rfl (fun hc => absurd hc (by decide)) (fun c188 => ?_)
                      refine hv_aload_n h dX4_join_191 4 rfl rfl ?_
                      refine hv_iload h dX4_join_192 3 rfl ?_
                      refine hv_sipush h (144) dX4_join_194 (by decide) ?_
                      refine hw_idiv h (nI (k / 144)) dX4_join_197 (by decide) (pk_div (by omega) (by decide) (by decide)) ?_
                      refine hv_iload h dX4_join_198 3 rfl ?_
                      refine hv_bipush h (12) dX4_join_200 (by decide) ?_
                      refine hw_idiv h (nI (k / 12)) dX4_join_202 (by decide) (pk_div (by omega) (by decide) (by decide)) ?_
                      refine hv_bipush h (12) dX4_join_203 (by decide) ?_
                      refine hw_irem h (nI ((k / 12) % 12)) dX4_join_205 (by decide) (pk_rem (by omega) (by decide) (by decide)) ?_
                      refine hv_iload h dX4_join_206 3 rfl ?_
                      refine hv_bipush h (12) dX4_join_208 (by decide) ?_
                      refine hw_irem h (nI (k % 12)) dX4_join_210 (by decide) (pk_rem (by omega) (by decide) (by decide)) ?_
                      refine hv_callw (ws' := (hmW xa xb xc xd xe xf xg xh tl g cI (hy_put Fbi (k / 144) ((k / 12) % 12) (nI (k % 12))) wh se pi (nI d) al tp bd)) h (hr_Vv (n := 3) (rest := []) h 8 rfl rfl (k_X4_put l D cI cC xa xb xc xd xe xf xg xh tl g Fbi wh se pi (nI d) al tp bd (k / 144) ((k / 12) % 12) (nI (k % 12)) (by omega) (by omega)) w_methodLink_X4_52 w_instanceMethod_X4_put w_selects_X4_put w_initialized_X4 w_code_X4_put (by decide +kernel) rfl rfl rfl ⟨by decide, by decide⟩ rfl (Nat.le_of_ble_eq_true rfl) ⟨Nat.zero_le _, Nat.zero_le _⟩ dX4_join_211) ?_
                      refine hv_iinc h (nI (k + 1)) [(5, .int (nI (k + 1))), (8, .int 1), (7, .int (hx_b (hy_has Fbi i2 (nI (k / 144)) (nI ((k / 12) % 12)) (nI (k % 12))))), (6, .int (hx_b (hy_has Fbi i1 (nI (k / 144)) (nI ((k / 12) % 12)) (nI (k % 12))))), (0, .ref (g 8)), (1, .int (nI i0)), (2, .int (nI i1)), (3, .int (nI i2)), (4, .int w0)] dX4_join_214 3 rfl (hs_inc _) (by decide) rfl ?_
                      refine hv_goto h 41 dX4_join_217 rfl ?_
                      refine hs_pick (lv' := [(5, .int (nI (k + 1))), (0, .ref (g 8)), (1, .int (nI i0)), (2, .int (nI i1)), (3, .int (nI i2)), (4, .int w0)]) [0, 4, 5, 6, 7, 8] rfl ?_
                      exact ih41 (k + 1) (by omega) _ (by rw [hx_it_s, ← e_Fbi]; simp [hy_jc, c103, c108, c113])
            exact L41 1728 0 (by omega) _ rfl
          · refine hv_iconst h ((-1)) dX4_join_32 (by decide) ?_
            exact hv_iret h hr hlk hQ dX4_join_33 (Or.inl ⟨by simp [c4, c11, c18, c23, c29], rfl, rfl⟩)
abbrev rX4_turn : Room := { frames := 2, cells := 0, slots := 0, locals := 45 }
set_option maxHeartbeats 1000000 in
set_option maxRecDepth 100000 in
theorem k_X4_turn (l : Launch) (D : va_G) (cI cC : ClassId) (xa xb xc xd xe xf xg xh : Nat × va_E) (tl : va_W) (g : Nat → Nat) (bi wh se pi : Nat → Int32) (d : Nat) (al tp bd : Int32) (s0 : Int32) (ax : Int32) (hd : d ≤ 12) : hsI l yX4_turn wsX4_turn rX4_turn D vwCl (hsT cI cC) [.ref (g 8), .int s0, .int ax] (hmW xa xb xc xd xe xf xg xh tl g cI bi wh se pi (nI d) al tp bd) (fun r w => ((hx_in s0 6 && hx_in ax 3) = false ∧ r = -1 ∧ w = (hmW xa xb xc xd xe xf xg xh tl g cI bi wh se pi (nI d) al tp bd)) ∨ (∃ i0 : Nat, i0 < 6 ∧ s0 = nI i0 ∧ (hx_in s0 6 && hx_in ax 3) = true ∧ r = hy_cnt (hy_stp (hx_it (fun k b => if hy_tc b i0 ax k = true then hy_put b (k / 144) ((k / 12) % 12) (nI (k % 12)) else b) 1728 (hy_clr bi)) wh d i0).1 i0 ∧ w = (hmW xa xb xc xd xe xf xg xh tl g cI ((hy_stp (hx_it (fun k b => if hy_tc b i0 ax k = true then hy_put b (k / 144) ((k / 12) % 12) (nI (k % 12)) else b) 1728 (hy_clr bi)) wh d i0).1) ((hy_stp (hx_it (fun k b => if hy_tc b i0 ax k = true then hy_put b (k / 144) ((k / 12) % 12) (nI (k % 12)) else b) 1728 (hy_clr bi)) wh d i0).2) se pi (nI (hq_d d + 1)) (nI (hq_d d + 1)) tp bd))) := by
  refine hsI.enter (cc := cX4_turn) (maxL := 8) (ret := (some .int)) (by decide) rfl (Nat.le_of_ble_eq_true rfl) ?_
  intro Pg En Ss Mi Ar Be Me Co AA QQ hQ h hr hlk
  refine hs_lv (lv' := [(0, .ref (g 8)), (1, .int s0), (2, .int ax)]) rfl ?_
  refine hv_iload_n h dX4_turn_0 1 rfl rfl ?_
  refine hv_callp (ws' := (hmW xa xb xc xd xe xf xg xh tl g cI bi wh se pi (nI d) al tp bd)) (v := hx_b (hx_in s0 6)) h (hr_Si (n := 1) (rest := []) h (k_X4_isSolid l D cI cC (hmW xa xb xc xd xe xf xg xh tl g cI bi wh se pi (nI d) al tp bd) s0) w_methodLink_X4_45 w_static_X4_isSolid w_initialized_X4 w_code_X4_isSolid (by decide +kernel) rfl rfl rfl ⟨by decide, by decide⟩ rfl (Nat.le_of_ble_eq_true rfl) ⟨Nat.zero_le _, Nat.zero_le _⟩ dX4_turn_1) ?_
  refine hv_bif_eq h 14 dX4_turn_4 rfl (fun c4 => ?_) (fun c4 => ?_)
  · refine hv_iconst h ((-1)) dX4_turn_14 (by decide) ?_
    exact hv_iret h hr hlk hQ dX4_turn_15 (Or.inl ⟨by simp [c4], rfl, rfl⟩)
  · refine hv_iload_n h dX4_turn_7 2 rfl rfl ?_
    refine hv_callp (ws' := (hmW xa xb xc xd xe xf xg xh tl g cI bi wh se pi (nI d) al tp bd)) (v := hx_b (hx_in ax 3)) h (hr_Si (n := 1) (rest := []) h (k_X4_isAxis l D cI cC (hmW xa xb xc xd xe xf xg xh tl g cI bi wh se pi (nI d) al tp bd) ax) w_methodLink_X4_59 w_static_X4_isAxis w_initialized_X4 w_code_X4_isAxis (by decide +kernel) rfl rfl rfl ⟨by decide, by decide⟩ rfl (Nat.le_of_ble_eq_true rfl) ⟨Nat.zero_le _, Nat.zero_le _⟩ dX4_turn_8) ?_
    refine hv_bif_ne h 16 dX4_turn_11 rfl (fun c11 => ?_) (fun c11 => ?_)
    · obtain ⟨i0, hi0, rfl⟩ := hx_in_nat (n := 6) (by decide) c4
      have hcli0 : (nI i0).toNatClampNeg = i0 := nI_clamp (by omega)
      refine hv_aload_n h dX4_turn_16 0 rfl rfl ?_
      refine hv_callw (ws' := (hmW xa xb xc xd xe xf xg xh tl g cI (hy_clr bi) wh se pi (nI d) al tp bd)) h (hr_Vv (n := 0) (rest := []) h 8 rfl rfl (k_X4_clearDraft l D cI cC xa xb xc xd xe xf xg xh tl g bi wh se pi (nI d) al tp bd  ) w_methodLink_X4_49 w_instanceMethod_X4_clearDraft w_selects_X4_clearDraft w_initialized_X4 w_code_X4_clearDraft (by decide +kernel) rfl rfl rfl ⟨by decide, by decide⟩ rfl (Nat.le_of_ble_eq_true rfl) ⟨Nat.zero_le _, Nat.zero_le _⟩ dX4_turn_17) ?_
      refine hv_iconst h (nI 0) dX4_turn_20 (by decide) ?_
      refine hv_istore_n h [(3, .int (nI 0)), (0, .ref (g 8)), (1, .int (nI i0)), (2, .int ax)] dX4_turn_21 rfl (by decide) rfl ?_
      have L22 : ∀ d22 k : Nat, k + d22 = 1728 → ∀ (Fbi : Nat → Int32), Fbi = hx_it (fun k b => if hy_tc b i0 ax k = true then hy_put b (k / 144) ((k / 12) % 12) (nI (k % 12)) else b) k (hy_clr bi) → hsV Pg l En rX4_turn Ss Mi Ar Be Me Co QQ 8 D vwCl AA Ss.heap 0 0 22 [(3, .int (nI k)), (0, .ref (g 8)), (1, .int (nI i0)), (2, .int ax)] (hmW xa xb xc xd xe xf xg xh tl g cI Fbi wh se pi (nI d) al tp bd) [] := by
        intro d22
        induction d22 with
        | zero =>
          intro k kq22 Fbi e_Fbi
          obtain rfl : k = 1728 := by omega
          refine hv_iload_n h dX4_turn_22 0 rfl rfl ?_
          refine hv_sipush h (nI 1728) dX4_turn_23 (by decide) ?_
          refine hv_icmp_ge h 131 dX4_turn_26 rfl (fun c26 => ?_) (fun hc => absurd (Int32.le_refl _) hc)
          refine hv_aload_n h dX4_turn_131 1 rfl rfl ?_
          refine hv_iload_n h dX4_turn_132 2 rfl rfl ?_
          refine hv_callp (ws' := (hmW xa xb xc xd xe xf xg xh tl g cI ((hy_stp Fbi wh d i0).1) ((hy_stp Fbi wh d i0).2) se pi (nI (hq_d d + 1)) (nI (hq_d d + 1)) tp bd)) (v := hy_cnt (hy_stp Fbi wh d i0).1 i0) h (hr_Vi (n := 1) (rest := []) h 8 rfl rfl (k_X4_step l D cI cC xa xb xc xd xe xf xg xh tl g Fbi wh se pi d al tp bd i0 hi0 hd) w_methodLink_X4_56 w_instanceMethod_X4_step w_selects_X4_step w_initialized_X4 w_code_X4_step (by decide +kernel) rfl rfl rfl ⟨by decide, by decide⟩ rfl (Nat.le_of_ble_eq_true rfl) ⟨Nat.zero_le _, Nat.zero_le _⟩ dX4_turn_133) ?_
          exact hv_iret h hr hlk hQ dX4_turn_136 (Or.inr (⟨i0, hi0, rfl, by simp [c4, c11, hcli0, c26], by rw [e_Fbi]; first | done | rfl, by rw [e_Fbi]; first | done | rfl⟩))
        | succ d22 ih22 =>
          intro k kq22 Fbi e_Fbi
          have hlt22 : k < 1728 := by omega
          refine hv_iload_n h dX4_turn_22 0 rfl rfl ?_
          refine hv_sipush h (nI 1728) dX4_turn_23 (by decide) ?_
          refine hv_icmp_ge h 131 dX4_turn_26 rfl (fun hc => absurd hc (nI_ge hlt22 (by decide))) (fun c26 => ?_)
          refine hv_iload_n h dX4_turn_29 0 rfl rfl ?_
          refine hv_sipush h (144) dX4_turn_30 (by decide) ?_
          refine hw_idiv h (nI (k / 144)) dX4_turn_33 (by decide) (pk_div (by omega) (by decide) (by decide)) ?_
          refine hv_istore h [(4, .int (nI (k / 144))), (3, .int (nI k)), (0, .ref (g 8)), (1, .int (nI i0)), (2, .int ax)] dX4_turn_34 (by decide) rfl ?_
          refine hv_iload_n h dX4_turn_36 1 rfl rfl ?_
          refine hv_bipush h (12) dX4_turn_37 (by decide) ?_
          refine hw_idiv h (nI (k / 12)) dX4_turn_39 (by decide) (pk_div (by omega) (by decide) (by decide)) ?_
          refine hv_bipush h (12) dX4_turn_40 (by decide) ?_
          refine hw_irem h (nI ((k / 12) % 12)) dX4_turn_42 (by decide) (pk_rem (by omega) (by decide) (by decide)) ?_
          refine hv_istore h [(5, .int (nI ((k / 12) % 12))), (4, .int (nI (k / 144))), (3, .int (nI k)), (0, .ref (g 8)), (1, .int (nI i0)), (2, .int ax)] dX4_turn_43 (by decide) rfl ?_
          refine hv_iload_n h dX4_turn_45 2 rfl rfl ?_
          refine hv_bipush h (12) dX4_turn_46 (by decide) ?_
          refine hw_irem h (nI (k % 12)) dX4_turn_48 (by decide) (pk_rem (by omega) (by decide) (by decide)) ?_
          refine hv_istore h [(6, .int (nI (k % 12))), (5, .int (nI ((k / 12) % 12))), (4, .int (nI (k / 144))), (3, .int (nI k)), (0, .ref (g 8)), (1, .int (nI i0)), (2, .int ax)] dX4_turn_49 (by decide) rfl ?_
          refine hv_iload_n h dX4_turn_51 6 rfl rfl ?_
          refine hv_if_ne h 72 dX4_turn_52 rfl (fun c52 => ?_) (fun c52 => ?_)
          · refine hv_iload_n h dX4_turn_72 6 rfl rfl ?_
            refine hv_iconst h (1) dX4_turn_73 (by decide) ?_
            refine hv_icmp_ne h 94 dX4_turn_74 rfl (fun c74 => ?_) (fun c74 => ?_)
            · refine hv_aload_n h dX4_turn_94 4 rfl rfl ?_
              refine hv_iload_n h dX4_turn_95 5 rfl rfl ?_
              refine hv_iload h dX4_turn_96 1 rfl ?_
              refine hv_bipush h (11) dX4_turn_98 (by decide) ?_
              refine hv_iload h dX4_turn_100 2 rfl ?_
              refine hv_isub h dX4_turn_102 ?_
              refine hv_iload h dX4_turn_103 0 rfl ?_
              refine hv_callp (ws' := (hmW xa xb xc xd xe xf xg xh tl g cI Fbi wh se pi (nI d) al tp bd)) (v := hx_b (hy_has Fbi i0 (nI ((k / 12) % 12)) (11 - (nI (k / 144))) (nI (k % 12)))) h (hr_Vi (n := 4) (rest := []) h 8 rfl rfl (k_X4_has l D cI cC xa xb xc xd xe xf xg xh tl g Fbi wh se pi (nI d) al tp bd i0 (nI ((k / 12) % 12)) (11 - (nI (k / 144))) (nI (k % 12)) (by omega)) w_methodLink_X4_26 w_instanceMethod_X4_has w_selects_X4_has w_initialized_X4 w_code_X4_has (by decide +kernel) rfl rfl rfl ⟨by decide, by decide⟩ rfl (Nat.le_of_ble_eq_true rfl) ⟨Nat.zero_le _, Nat.zero_le _⟩ dX4_turn_105) ?_
              refine hv_istore h [(7, .int (hx_b (hy_has Fbi i0 (nI ((k / 12) % 12)) (11 - (nI (k / 144))) (nI (k % 12))))), (6, .int (nI (k % 12))), (5, .int (nI ((k / 12) % 12))), (4, .int (nI (k / 144))), (3, .int (nI k)), (0, .ref (g 8)), (1, .int (nI i0)), (2, .int ax)] dX4_turn_108 (by decide) rfl ?_
              refine hv_iload h dX4_turn_110 0 rfl ?_
              refine hv_bif_eq h 125 dX4_turn_112 rfl (fun c112 => ?_) (fun c112 => ?_)
              · refine hv_iinc h (nI (k + 1)) [(3, .int (nI (k + 1))), (7, .int (hx_b (hy_has Fbi i0 (nI ((k / 12) % 12)) (11 - (nI (k / 144))) (nI (k % 12))))), (6, .int (nI (k % 12))), (5, .int (nI ((k / 12) % 12))), (4, .int (nI (k / 144))), (0, .ref (g 8)), (1, .int (nI i0)), (2, .int ax)] dX4_turn_125 4 rfl (hs_inc _) (by decide) rfl ?_
                refine hv_goto h 22 dX4_turn_128 rfl ?_
                refine hs_pick (lv' := [(3, .int (nI (k + 1))), (0, .ref (g 8)), (1, .int (nI i0)), (2, .int ax)]) [0, 5, 6, 7] rfl ?_
                exact ih22 (k + 1) (by omega) _ (by rw [hx_it_s, ← e_Fbi]; try first | assumption | with_reducible rfl | (simp [hy_tc, c4, c11, hcli0, c26, c52, c74, c112]; done))
              · refine hv_aload_n h dX4_turn_115 5 rfl rfl ?_
                refine hv_iload h dX4_turn_116 3 rfl ?_
                refine hv_iload h dX4_turn_118 2 rfl ?_
                refine hv_iload h dX4_turn_120 1 rfl ?_
                refine hv_callw (ws' := (hmW xa xb xc xd xe xf xg xh tl g cI (hy_put Fbi (k / 144) ((k / 12) % 12) (nI (k % 12))) wh se pi (nI d) al tp bd)) h (hr_Vv (n := 3) (rest := []) h 8 rfl rfl (k_X4_put l D cI cC xa xb xc xd xe xf xg xh tl g Fbi wh se pi (nI d) al tp bd (k / 144) ((k / 12) % 12) (nI (k % 12)) (by omega) (by omega)) w_methodLink_X4_52 w_instanceMethod_X4_put w_selects_X4_put w_initialized_X4 w_code_X4_put (by decide +kernel) rfl rfl rfl ⟨by decide, by decide⟩ rfl (Nat.le_of_ble_eq_true rfl) ⟨Nat.zero_le _, Nat.zero_le _⟩ dX4_turn_122) ?_
                refine hv_iinc h (nI (k + 1)) [(3, .int (nI (k + 1))), (7, .int (hx_b (hy_has Fbi i0 (nI ((k / 12) % 12)) (11 - (nI (k / 144))) (nI (k % 12))))), (6, .int (nI (k % 12))), (5, .int (nI ((k / 12) % 12))), (4, .int (nI (k / 144))), (0, .ref (g 8)), (1, .int (nI i0)), (2, .int ax)] dX4_turn_125 4 rfl (hs_inc _) (by decide) rfl ?_
                refine hv_goto h 22 dX4_turn_128 rfl ?_
                refine hs_pick (lv' := [(3, .int (nI (k + 1))), (0, .ref (g 8)), (1, .int (nI i0)), (2, .int ax)]) [0, 5, 6, 7] rfl ?_
                exact ih22 (k + 1) (by omega) _ (by rw [hx_it_s, ← e_Fbi]; try first | assumption | with_reducible rfl | (simp [hy_tc, c4, c11, hcli0, c26, c52, c74, c112]; done))
            · refine hv_aload_n h dX4_turn_77 4 rfl rfl ?_
              refine hv_iload_n h dX4_turn_78 5 rfl rfl ?_
              refine hv_bipush h (11) dX4_turn_79 (by decide) ?_
              refine hv_iload h dX4_turn_81 0 rfl ?_
              refine hv_isub h dX4_turn_83 ?_
              refine hv_iload h dX4_turn_84 1 rfl ?_
              refine hv_iload h dX4_turn_86 2 rfl ?_
              refine hv_callp (ws' := (hmW xa xb xc xd xe xf xg xh tl g cI Fbi wh se pi (nI d) al tp bd)) (v := hx_b (hy_has Fbi i0 (11 - (nI (k % 12))) (nI ((k / 12) % 12)) (nI (k / 144)))) h (hr_Vi (n := 4) (rest := []) h 8 rfl rfl (k_X4_has l D cI cC xa xb xc xd xe xf xg xh tl g Fbi wh se pi (nI d) al tp bd i0 (11 - (nI (k % 12))) (nI ((k / 12) % 12)) (nI (k / 144)) (by omega)) w_methodLink_X4_26 w_instanceMethod_X4_has w_selects_X4_has w_initialized_X4 w_code_X4_has (by decide +kernel) rfl rfl rfl ⟨by decide, by decide⟩ rfl (Nat.le_of_ble_eq_true rfl) ⟨Nat.zero_le _, Nat.zero_le _⟩ dX4_turn_88) ?_
              refine hv_goto h 108 dX4_turn_91 rfl ?_
              refine hv_istore h [(7, .int (hx_b (hy_has Fbi i0 (11 - (nI (k % 12))) (nI ((k / 12) % 12)) (nI (k / 144))))), (6, .int (nI (k % 12))), (5, .int (nI ((k / 12) % 12))), (4, .int (nI (k / 144))), (3, .int (nI k)), (0, .ref (g 8)), (1, .int (nI i0)), (2, .int ax)] dX4_turn_108 (by decide) rfl ?_
              refine hv_iload h dX4_turn_110 0 rfl ?_
              refine hv_bif_eq h 125 dX4_turn_112 rfl (fun c112 => ?_) (fun c112 => ?_)
              · refine hv_iinc h (nI (k + 1)) [(3, .int (nI (k + 1))), (7, .int (hx_b (hy_has Fbi i0 (11 - (nI (k % 12))) (nI ((k / 12) % 12)) (nI (k / 144))))), (6, .int (nI (k % 12))), (5, .int (nI ((k / 12) % 12))), (4, .int (nI (k / 144))), (0, .ref (g 8)), (1, .int (nI i0)), (2, .int ax)] dX4_turn_125 4 rfl (hs_inc _) (by decide) rfl ?_
                refine hv_goto h 22 dX4_turn_128 rfl ?_
                refine hs_pick (lv' := [(3, .int (nI (k + 1))), (0, .ref (g 8)), (1, .int (nI i0)), (2, .int ax)]) [0, 5, 6, 7] rfl ?_
                exact ih22 (k + 1) (by omega) _ (by rw [hx_it_s, ← e_Fbi]; try first | assumption | with_reducible rfl | (simp [hy_tc, c4, c11, hcli0, c26, c52, c74, c112]; done))
              · refine hv_aload_n h dX4_turn_115 5 rfl rfl ?_
                refine hv_iload h dX4_turn_116 3 rfl ?_
                refine hv_iload h dX4_turn_118 2 rfl ?_
                refine hv_iload h dX4_turn_120 1 rfl ?_
                refine hv_callw (ws' := (hmW xa xb xc xd xe xf xg xh tl g cI (hy_put Fbi (k / 144) ((k / 12) % 12) (nI (k % 12))) wh se pi (nI d) al tp bd)) h (hr_Vv (n := 3) (rest := []) h 8 rfl rfl (k_X4_put l D cI cC xa xb xc xd xe xf xg xh tl g Fbi wh se pi (nI d) al tp bd (k / 144) ((k / 12) % 12) (nI (k % 12)) (by omega) (by omega)) w_methodLink_X4_52 w_instanceMethod_X4_put w_selects_X4_put w_initialized_X4 w_code_X4_put (by decide +kernel) rfl rfl rfl ⟨by decide, by decide⟩ rfl (Nat.le_of_ble_eq_true rfl) ⟨Nat.zero_le _, Nat.zero_le _⟩ dX4_turn_122) ?_
                refine hv_iinc h (nI (k + 1)) [(3, .int (nI (k + 1))), (7, .int (hx_b (hy_has Fbi i0 (11 - (nI (k % 12))) (nI ((k / 12) % 12)) (nI (k / 144))))), (6, .int (nI (k % 12))), (5, .int (nI ((k / 12) % 12))), (4, .int (nI (k / 144))), (0, .ref (g 8)), (1, .int (nI i0)), (2, .int ax)] dX4_turn_125 4 rfl (hs_inc _) (by decide) rfl ?_
                refine hv_goto h 22 dX4_turn_128 rfl ?_
                refine hs_pick (lv' := [(3, .int (nI (k + 1))), (0, .ref (g 8)), (1, .int (nI i0)), (2, .int ax)]) [0, 5, 6, 7] rfl ?_
                exact ih22 (k + 1) (by omega) _ (by rw [hx_it_s, ← e_Fbi]; try first | assumption | with_reducible rfl | (simp [hy_tc, c4, c11, hcli0, c26, c52, c74, c112]; done))
          · refine hv_aload_n h dX4_turn_55 4 rfl rfl ?_
            refine hv_iload_n h dX4_turn_56 5 rfl rfl ?_
            refine hv_iload h dX4_turn_57 2 rfl ?_
            refine hv_iload h dX4_turn_59 0 rfl ?_
            refine hv_bipush h (11) dX4_turn_61 (by decide) ?_
            refine hv_iload h dX4_turn_63 1 rfl ?_
            refine hv_isub h dX4_turn_65 ?_
            refine hv_callp (ws' := (hmW xa xb xc xd xe xf xg xh tl g cI Fbi wh se pi (nI d) al tp bd)) (v := hx_b (hy_has Fbi i0 (nI (k / 144)) (nI (k % 12)) (11 - (nI ((k / 12) % 12))))) h (hr_Vi (n := 4) (rest := []) h 8 rfl rfl (k_X4_has l D cI cC xa xb xc xd xe xf xg xh tl g Fbi wh se pi (nI d) al tp bd i0 (nI (k / 144)) (nI (k % 12)) (11 - (nI ((k / 12) % 12))) (by omega)) w_methodLink_X4_26 w_instanceMethod_X4_has w_selects_X4_has w_initialized_X4 w_code_X4_has (by decide +kernel) rfl rfl rfl ⟨by decide, by decide⟩ rfl (Nat.le_of_ble_eq_true rfl) ⟨Nat.zero_le _, Nat.zero_le _⟩ dX4_turn_66) ?_
            refine hv_goto h 108 dX4_turn_69 rfl ?_
            refine hv_istore h [(7, .int (hx_b (hy_has Fbi i0 (nI (k / 144)) (nI (k % 12)) (11 - (nI ((k / 12) % 12)))))), (6, .int (nI (k % 12))), (5, .int (nI ((k / 12) % 12))), (4, .int (nI (k / 144))), (3, .int (nI k)), (0, .ref (g 8)), (1, .int (nI i0)), (2, .int ax)] dX4_turn_108 (by decide) rfl ?_
            refine hv_iload h dX4_turn_110 0 rfl ?_
            refine hv_bif_eq h 125 dX4_turn_112 rfl (fun c112 => ?_) (fun c112 => ?_)
            · refine hv_iinc h (nI (k + 1)) [(3, .int (nI (k + 1))), (7, .int (hx_b (hy_has Fbi i0 (nI (k / 144)) (nI (k % 12)) (11 - (nI ((k / 12) % 12)))))), (6, .int (nI (k % 12))), (5, .int (nI ((k / 12) % 12))), (4, .int (nI (k / 144))), (0, .ref (g 8)), (1, .int (nI i0)), (2, .int ax)] dX4_turn_125 4 rfl (hs_inc _) (by decide) rfl ?_
              refine hv_goto h 22 dX4_turn_128 rfl ?_
              refine hs_pick (lv' := [(3, .int (nI (k + 1))), (0, .ref (g 8)), (1, .int (nI i0)), (2, .int ax)]) [0, 5, 6, 7] rfl ?_
              exact ih22 (k + 1) (by omega) _ (by rw [hx_it_s, ← e_Fbi]; try first | assumption | with_reducible rfl | (simp [hy_tc, c4, c11, hcli0, c26, c52, c112]; done))
            · refine hv_aload_n h dX4_turn_115 5 rfl rfl ?_
              refine hv_iload h dX4_turn_116 3 rfl ?_
              refine hv_iload h dX4_turn_118 2 rfl ?_
              refine hv_iload h dX4_turn_120 1 rfl ?_
              refine hv_callw (ws' := (hmW xa xb xc xd xe xf xg xh tl g cI (hy_put Fbi (k / 144) ((k / 12) % 12) (nI (k % 12))) wh se pi (nI d) al tp bd)) h (hr_Vv (n := 3) (rest := []) h 8 rfl rfl (k_X4_put l D cI cC xa xb xc xd xe xf xg xh tl g Fbi wh se pi (nI d) al tp bd (k / 144) ((k / 12) % 12) (nI (k % 12)) (by omega) (by omega)) w_methodLink_X4_52 w_instanceMethod_X4_put w_selects_X4_put w_initialized_X4 w_code_X4_put (by decide +kernel) rfl rfl rfl ⟨by decide, by decide⟩ rfl (Nat.le_of_ble_eq_true rfl) ⟨Nat.zero_le _, Nat.zero_le _⟩ dX4_turn_122) ?_
              refine hv_iinc h (nI (k + 1)) [(3, .int (nI (k + 1))), (7, .int (hx_b (hy_has Fbi i0 (nI (k / 144)) (nI (k % 12)) (11 - (nI ((k / 12) % 12)))))), (6, .int (nI (k % 12))), (5, .int (nI ((k / 12) % 12))), (4, .int (nI (k / 144))), (0, .ref (g 8)), (1, .int (nI i0)), (2, .int ax)] dX4_turn_125 4 rfl (hs_inc _) (by decide) rfl ?_
              refine hv_goto h 22 dX4_turn_128 rfl ?_
              refine hs_pick (lv' := [(3, .int (nI (k + 1))), (0, .ref (g 8)), (1, .int (nI i0)), (2, .int ax)]) [0, 5, 6, 7] rfl ?_
              exact ih22 (k + 1) (by omega) _ (by rw [hx_it_s, ← e_Fbi]; try first | assumption | with_reducible rfl | (simp [hy_tc, c4, c11, hcli0, c26, c52, c112]; done))
      exact L22 1728 0 (by omega) _ rfl
    · refine hv_iconst h ((-1)) dX4_turn_14 (by decide) ?_
      exact hv_iret h hr hlk hQ dX4_turn_15 (Or.inl ⟨by simp [c4, c11], rfl, rfl⟩)
abbrev rX4_mirror : Room := { frames := 2, cells := 0, slots := 0, locals := 45 }
set_option maxHeartbeats 1000000 in
set_option maxRecDepth 100000 in
theorem k_X4_mirror (l : Launch) (D : va_G) (cI cC : ClassId) (xa xb xc xd xe xf xg xh : Nat × va_E) (tl : va_W) (g : Nat → Nat) (bi wh se pi : Nat → Int32) (d : Nat) (al tp bd : Int32) (s0 : Int32) (ax : Int32) (hd : d ≤ 12) : hsI l yX4_mirror wsX4_mirror rX4_mirror D vwCl (hsT cI cC) [.ref (g 8), .int s0, .int ax] (hmW xa xb xc xd xe xf xg xh tl g cI bi wh se pi (nI d) al tp bd) (fun r w => ((hx_in s0 6 && hx_in ax 3) = false ∧ r = -1 ∧ w = (hmW xa xb xc xd xe xf xg xh tl g cI bi wh se pi (nI d) al tp bd)) ∨ (∃ i0 : Nat, i0 < 6 ∧ s0 = nI i0 ∧ (hx_in s0 6 && hx_in ax 3) = true ∧ r = hy_cnt (hy_stp (hx_it (fun k b => if hy_mc b i0 ax k = true then hy_put b (k / 144) ((k / 12) % 12) (nI (k % 12)) else b) 1728 (hy_clr bi)) wh d i0).1 i0 ∧ w = (hmW xa xb xc xd xe xf xg xh tl g cI ((hy_stp (hx_it (fun k b => if hy_mc b i0 ax k = true then hy_put b (k / 144) ((k / 12) % 12) (nI (k % 12)) else b) 1728 (hy_clr bi)) wh d i0).1) ((hy_stp (hx_it (fun k b => if hy_mc b i0 ax k = true then hy_put b (k / 144) ((k / 12) % 12) (nI (k % 12)) else b) 1728 (hy_clr bi)) wh d i0).2) se pi (nI (hq_d d + 1)) (nI (hq_d d + 1)) tp bd))) := by
  refine hsI.enter (cc := cX4_mirror) (maxL := 7) (ret := (some .int)) (by decide) rfl (Nat.le_of_ble_eq_true rfl) ?_
  intro Pg En Ss Mi Ar Be Me Co AA QQ hQ h hr hlk
  refine hs_lv (lv' := [(0, .ref (g 8)), (1, .int s0), (2, .int ax)]) rfl ?_
  refine hv_iload_n h dX4_mirror_0 1 rfl rfl ?_
  refine hv_callp (ws' := (hmW xa xb xc xd xe xf xg xh tl g cI bi wh se pi (nI d) al tp bd)) (v := hx_b (hx_in s0 6)) h (hr_Si (n := 1) (rest := []) h (k_X4_isSolid l D cI cC (hmW xa xb xc xd xe xf xg xh tl g cI bi wh se pi (nI d) al tp bd) s0) w_methodLink_X4_45 w_static_X4_isSolid w_initialized_X4 w_code_X4_isSolid (by decide +kernel) rfl rfl rfl ⟨by decide, by decide⟩ rfl (Nat.le_of_ble_eq_true rfl) ⟨Nat.zero_le _, Nat.zero_le _⟩ dX4_mirror_1) ?_
  refine hv_bif_eq h 14 dX4_mirror_4 rfl (fun c4 => ?_) (fun c4 => ?_)
  · refine hv_iconst h ((-1)) dX4_mirror_14 (by decide) ?_
    exact hv_iret h hr hlk hQ dX4_mirror_15 (Or.inl ⟨by simp [c4], rfl, rfl⟩)
  · refine hv_iload_n h dX4_mirror_7 2 rfl rfl ?_
    refine hv_callp (ws' := (hmW xa xb xc xd xe xf xg xh tl g cI bi wh se pi (nI d) al tp bd)) (v := hx_b (hx_in ax 3)) h (hr_Si (n := 1) (rest := []) h (k_X4_isAxis l D cI cC (hmW xa xb xc xd xe xf xg xh tl g cI bi wh se pi (nI d) al tp bd) ax) w_methodLink_X4_59 w_static_X4_isAxis w_initialized_X4 w_code_X4_isAxis (by decide +kernel) rfl rfl rfl ⟨by decide, by decide⟩ rfl (Nat.le_of_ble_eq_true rfl) ⟨Nat.zero_le _, Nat.zero_le _⟩ dX4_mirror_8) ?_
    refine hv_bif_ne h 16 dX4_mirror_11 rfl (fun c11 => ?_) (fun c11 => ?_)
    · obtain ⟨i0, hi0, rfl⟩ := hx_in_nat (n := 6) (by decide) c4
      have hcli0 : (nI i0).toNatClampNeg = i0 := nI_clamp (by omega)
      refine hv_aload_n h dX4_mirror_16 0 rfl rfl ?_
      refine hv_callw (ws' := (hmW xa xb xc xd xe xf xg xh tl g cI (hy_clr bi) wh se pi (nI d) al tp bd)) h (hr_Vv (n := 0) (rest := []) h 8 rfl rfl (k_X4_clearDraft l D cI cC xa xb xc xd xe xf xg xh tl g bi wh se pi (nI d) al tp bd  ) w_methodLink_X4_49 w_instanceMethod_X4_clearDraft w_selects_X4_clearDraft w_initialized_X4 w_code_X4_clearDraft (by decide +kernel) rfl rfl rfl ⟨by decide, by decide⟩ rfl (Nat.le_of_ble_eq_true rfl) ⟨Nat.zero_le _, Nat.zero_le _⟩ dX4_mirror_17) ?_
      refine hv_iconst h (nI 0) dX4_mirror_20 (by decide) ?_
      refine hv_istore_n h [(3, .int (nI 0)), (0, .ref (g 8)), (1, .int (nI i0)), (2, .int ax)] dX4_mirror_21 rfl (by decide) rfl ?_
      have L22 : ∀ d22 k : Nat, k + d22 = 1728 → ∀ (Fbi : Nat → Int32), Fbi = hx_it (fun k b => if hy_mc b i0 ax k = true then hy_put b (k / 144) ((k / 12) % 12) (nI (k % 12)) else b) k (hy_clr bi) → hsV Pg l En rX4_mirror Ss Mi Ar Be Me Co QQ 7 D vwCl AA Ss.heap 0 0 22 [(3, .int (nI k)), (0, .ref (g 8)), (1, .int (nI i0)), (2, .int ax)] (hmW xa xb xc xd xe xf xg xh tl g cI Fbi wh se pi (nI d) al tp bd) [] := by
        intro d22
        induction d22 with
        | zero =>
          intro k kq22 Fbi e_Fbi
          obtain rfl : k = 1728 := by omega
          refine hv_iload_n h dX4_mirror_22 0 rfl rfl ?_
          refine hv_sipush h (nI 1728) dX4_mirror_23 (by decide) ?_
          refine hv_icmp_ge h 119 dX4_mirror_26 rfl (fun c26 => ?_) (fun hc => absurd (Int32.le_refl _) hc)
          refine hv_aload_n h dX4_mirror_119 1 rfl rfl ?_
          refine hv_iload_n h dX4_mirror_120 2 rfl rfl ?_
          refine hv_callp (ws' := (hmW xa xb xc xd xe xf xg xh tl g cI ((hy_stp Fbi wh d i0).1) ((hy_stp Fbi wh d i0).2) se pi (nI (hq_d d + 1)) (nI (hq_d d + 1)) tp bd)) (v := hy_cnt (hy_stp Fbi wh d i0).1 i0) h (hr_Vi (n := 1) (rest := []) h 8 rfl rfl (k_X4_step l D cI cC xa xb xc xd xe xf xg xh tl g Fbi wh se pi d al tp bd i0 hi0 hd) w_methodLink_X4_56 w_instanceMethod_X4_step w_selects_X4_step w_initialized_X4 w_code_X4_step (by decide +kernel) rfl rfl rfl ⟨by decide, by decide⟩ rfl (Nat.le_of_ble_eq_true rfl) ⟨Nat.zero_le _, Nat.zero_le _⟩ dX4_mirror_121) ?_
          exact hv_iret h hr hlk hQ dX4_mirror_124 (Or.inr (⟨i0, hi0, rfl, by simp [c4, c11, hcli0, c26], by rw [e_Fbi]; first | done | rfl, by rw [e_Fbi]; first | done | rfl⟩))
        | succ d22 ih22 =>
          intro k kq22 Fbi e_Fbi
          have hlt22 : k < 1728 := by omega
          refine hv_iload_n h dX4_mirror_22 0 rfl rfl ?_
          refine hv_sipush h (nI 1728) dX4_mirror_23 (by decide) ?_
          refine hv_icmp_ge h 119 dX4_mirror_26 rfl (fun hc => absurd hc (nI_ge hlt22 (by decide))) (fun c26 => ?_)
          refine hv_iload_n h dX4_mirror_29 0 rfl rfl ?_
          refine hv_sipush h (144) dX4_mirror_30 (by decide) ?_
          refine hw_idiv h (nI (k / 144)) dX4_mirror_33 (by decide) (pk_div (by omega) (by decide) (by decide)) ?_
          refine hv_istore h [(4, .int (nI (k / 144))), (3, .int (nI k)), (0, .ref (g 8)), (1, .int (nI i0)), (2, .int ax)] dX4_mirror_34 (by decide) rfl ?_
          refine hv_iload_n h dX4_mirror_36 1 rfl rfl ?_
          refine hv_bipush h (12) dX4_mirror_37 (by decide) ?_
          refine hw_idiv h (nI (k / 12)) dX4_mirror_39 (by decide) (pk_div (by omega) (by decide) (by decide)) ?_
          refine hv_bipush h (12) dX4_mirror_40 (by decide) ?_
          refine hw_irem h (nI ((k / 12) % 12)) dX4_mirror_42 (by decide) (pk_rem (by omega) (by decide) (by decide)) ?_
          refine hv_istore h [(5, .int (nI ((k / 12) % 12))), (4, .int (nI (k / 144))), (3, .int (nI k)), (0, .ref (g 8)), (1, .int (nI i0)), (2, .int ax)] dX4_mirror_43 (by decide) rfl ?_
          refine hv_iload_n h dX4_mirror_45 2 rfl rfl ?_
          refine hv_bipush h (12) dX4_mirror_46 (by decide) ?_
          refine hw_irem h (nI (k % 12)) dX4_mirror_48 (by decide) (pk_rem (by omega) (by decide) (by decide)) ?_
          refine hv_istore h [(6, .int (nI (k % 12))), (5, .int (nI ((k / 12) % 12))), (4, .int (nI (k / 144))), (3, .int (nI k)), (0, .ref (g 8)), (1, .int (nI i0)), (2, .int ax)] dX4_mirror_49 (by decide) rfl ?_
          refine hv_aload_n h dX4_mirror_51 4 rfl rfl ?_
          refine hv_iload_n h dX4_mirror_52 5 rfl rfl ?_
          refine hv_iload_n h dX4_mirror_53 6 rfl rfl ?_
          refine hv_if_ne h 65 dX4_mirror_54 rfl (fun c54 => ?_) (fun c54 => ?_)
          · refine hv_iload h dX4_mirror_65 2 rfl ?_
            refine hv_iload_n h dX4_mirror_67 6 rfl rfl ?_
            refine hv_iconst h (1) dX4_mirror_68 (by decide) ?_
            refine hv_icmp_ne h 80 dX4_mirror_69 rfl (fun c69 => ?_) (fun c69 => ?_)
            · refine hv_iload h dX4_mirror_80 1 rfl ?_
              refine hv_iload_n h dX4_mirror_82 6 rfl rfl ?_
              refine hv_iconst h (2) dX4_mirror_83 (by decide) ?_
              refine hv_icmp_ne h 95 dX4_mirror_84 rfl (fun c84 => ?_) (fun c84 => ?_)
              · refine hv_iload h dX4_mirror_95 0 rfl ?_
                refine hv_callp (ws' := (hmW xa xb xc xd xe xf xg xh tl g cI Fbi wh se pi (nI d) al tp bd)) (v := hx_b (hy_has Fbi i0 (nI (k / 144)) (nI ((k / 12) % 12)) (nI (k % 12)))) h (hr_Vi (n := 4) (rest := []) h 8 rfl rfl (k_X4_has l D cI cC xa xb xc xd xe xf xg xh tl g Fbi wh se pi (nI d) al tp bd i0 (nI (k / 144)) (nI ((k / 12) % 12)) (nI (k % 12)) (by omega)) w_methodLink_X4_26 w_instanceMethod_X4_has w_selects_X4_has w_initialized_X4 w_code_X4_has (by decide +kernel) rfl rfl rfl ⟨by decide, by decide⟩ rfl (Nat.le_of_ble_eq_true rfl) ⟨Nat.zero_le _, Nat.zero_le _⟩ dX4_mirror_97) ?_
                refine hv_bif_eq h 113 dX4_mirror_100 rfl (fun c100 => ?_) (fun c100 => ?_)
                · refine hv_iinc h (nI (k + 1)) [(3, .int (nI (k + 1))), (6, .int (nI (k % 12))), (5, .int (nI ((k / 12) % 12))), (4, .int (nI (k / 144))), (0, .ref (g 8)), (1, .int (nI i0)), (2, .int ax)] dX4_mirror_113 3 rfl (hs_inc _) (by decide) rfl ?_
                  refine hv_goto h 22 dX4_mirror_116 rfl ?_
                  refine hs_pick (lv' := [(3, .int (nI (k + 1))), (0, .ref (g 8)), (1, .int (nI i0)), (2, .int ax)]) [0, 4, 5, 6] rfl ?_
                  exact ih22 (k + 1) (by omega) _ (by rw [hx_it_s, ← e_Fbi]; unfold hy_mc; rw [if_neg c54, if_neg c69, if_neg c84, c100]; first | done | rfl)
                · refine hv_aload_n h dX4_mirror_103 4 rfl rfl ?_
                  refine hv_iload h dX4_mirror_104 2 rfl ?_
                  refine hv_iload h dX4_mirror_106 1 rfl ?_
                  refine hv_iload h dX4_mirror_108 0 rfl ?_
                  refine hv_callw (ws' := (hmW xa xb xc xd xe xf xg xh tl g cI (hy_put Fbi (k / 144) ((k / 12) % 12) (nI (k % 12))) wh se pi (nI d) al tp bd)) h (hr_Vv (n := 3) (rest := []) h 8 rfl rfl (k_X4_put l D cI cC xa xb xc xd xe xf xg xh tl g Fbi wh se pi (nI d) al tp bd (k / 144) ((k / 12) % 12) (nI (k % 12)) (by omega) (by omega)) w_methodLink_X4_52 w_instanceMethod_X4_put w_selects_X4_put w_initialized_X4 w_code_X4_put (by decide +kernel) rfl rfl rfl ⟨by decide, by decide⟩ rfl (Nat.le_of_ble_eq_true rfl) ⟨Nat.zero_le _, Nat.zero_le _⟩ dX4_mirror_110) ?_
                  refine hv_iinc h (nI (k + 1)) [(3, .int (nI (k + 1))), (6, .int (nI (k % 12))), (5, .int (nI ((k / 12) % 12))), (4, .int (nI (k / 144))), (0, .ref (g 8)), (1, .int (nI i0)), (2, .int ax)] dX4_mirror_113 3 rfl (hs_inc _) (by decide) rfl ?_
                  refine hv_goto h 22 dX4_mirror_116 rfl ?_
                  refine hs_pick (lv' := [(3, .int (nI (k + 1))), (0, .ref (g 8)), (1, .int (nI i0)), (2, .int ax)]) [0, 4, 5, 6] rfl ?_
                  exact ih22 (k + 1) (by omega) _ (by rw [hx_it_s, ← e_Fbi]; unfold hy_mc; rw [if_neg c54, if_neg c69, if_neg c84, c100]; first | done | rfl)
              · refine hv_bipush h (11) dX4_mirror_87 (by decide) ?_
                refine hv_iload h dX4_mirror_89 0 rfl ?_
                refine hv_isub h dX4_mirror_91 ?_
                refine hv_goto h 97 dX4_mirror_92 rfl ?_
                refine hv_callp (ws' := (hmW xa xb xc xd xe xf xg xh tl g cI Fbi wh se pi (nI d) al tp bd)) (v := hx_b (hy_has Fbi i0 (nI (k / 144)) (nI ((k / 12) % 12)) (11 - (nI (k % 12))))) h (hr_Vi (n := 4) (rest := []) h 8 rfl rfl (k_X4_has l D cI cC xa xb xc xd xe xf xg xh tl g Fbi wh se pi (nI d) al tp bd i0 (nI (k / 144)) (nI ((k / 12) % 12)) (11 - (nI (k % 12))) (by omega)) w_methodLink_X4_26 w_instanceMethod_X4_has w_selects_X4_has w_initialized_X4 w_code_X4_has (by decide +kernel) rfl rfl rfl ⟨by decide, by decide⟩ rfl (Nat.le_of_ble_eq_true rfl) ⟨Nat.zero_le _, Nat.zero_le _⟩ dX4_mirror_97) ?_
                refine hv_bif_eq h 113 dX4_mirror_100 rfl (fun c100 => ?_) (fun c100 => ?_)
                · refine hv_iinc h (nI (k + 1)) [(3, .int (nI (k + 1))), (6, .int (nI (k % 12))), (5, .int (nI ((k / 12) % 12))), (4, .int (nI (k / 144))), (0, .ref (g 8)), (1, .int (nI i0)), (2, .int ax)] dX4_mirror_113 3 rfl (hs_inc _) (by decide) rfl ?_
                  refine hv_goto h 22 dX4_mirror_116 rfl ?_
                  refine hs_pick (lv' := [(3, .int (nI (k + 1))), (0, .ref (g 8)), (1, .int (nI i0)), (2, .int ax)]) [0, 4, 5, 6] rfl ?_
                  exact ih22 (k + 1) (by omega) _ (by rw [hx_it_s, ← e_Fbi]; unfold hy_mc; rw [if_neg c54, if_neg c69, if_pos c84, c100]; first | done | rfl)
                · refine hv_aload_n h dX4_mirror_103 4 rfl rfl ?_
                  refine hv_iload h dX4_mirror_104 2 rfl ?_
                  refine hv_iload h dX4_mirror_106 1 rfl ?_
                  refine hv_iload h dX4_mirror_108 0 rfl ?_
                  refine hv_callw (ws' := (hmW xa xb xc xd xe xf xg xh tl g cI (hy_put Fbi (k / 144) ((k / 12) % 12) (nI (k % 12))) wh se pi (nI d) al tp bd)) h (hr_Vv (n := 3) (rest := []) h 8 rfl rfl (k_X4_put l D cI cC xa xb xc xd xe xf xg xh tl g Fbi wh se pi (nI d) al tp bd (k / 144) ((k / 12) % 12) (nI (k % 12)) (by omega) (by omega)) w_methodLink_X4_52 w_instanceMethod_X4_put w_selects_X4_put w_initialized_X4 w_code_X4_put (by decide +kernel) rfl rfl rfl ⟨by decide, by decide⟩ rfl (Nat.le_of_ble_eq_true rfl) ⟨Nat.zero_le _, Nat.zero_le _⟩ dX4_mirror_110) ?_
                  refine hv_iinc h (nI (k + 1)) [(3, .int (nI (k + 1))), (6, .int (nI (k % 12))), (5, .int (nI ((k / 12) % 12))), (4, .int (nI (k / 144))), (0, .ref (g 8)), (1, .int (nI i0)), (2, .int ax)] dX4_mirror_113 3 rfl (hs_inc _) (by decide) rfl ?_
                  refine hv_goto h 22 dX4_mirror_116 rfl ?_
                  refine hs_pick (lv' := [(3, .int (nI (k + 1))), (0, .ref (g 8)), (1, .int (nI i0)), (2, .int ax)]) [0, 4, 5, 6] rfl ?_
                  exact ih22 (k + 1) (by omega) _ (by rw [hx_it_s, ← e_Fbi]; unfold hy_mc; rw [if_neg c54, if_neg c69, if_pos c84, c100]; first | done | rfl)
            · refine hv_bipush h (11) dX4_mirror_72 (by decide) ?_
              refine hv_iload h dX4_mirror_74 1 rfl ?_
              refine hv_isub h dX4_mirror_76 ?_
              refine hv_goto h 82 dX4_mirror_77 rfl ?_
              refine hv_iload_n h dX4_mirror_82 6 rfl rfl ?_
              refine hv_iconst h (2) dX4_mirror_83 (by decide) ?_
              refine hv_icmp_ne h 95 dX4_mirror_84 rfl (fun c84 => ?_) (fun c84 => ?_)
              · refine hv_iload h dX4_mirror_95 0 rfl ?_
                refine hv_callp (ws' := (hmW xa xb xc xd xe xf xg xh tl g cI Fbi wh se pi (nI d) al tp bd)) (v := hx_b (hy_has Fbi i0 (nI (k / 144)) (11 - (nI ((k / 12) % 12))) (nI (k % 12)))) h (hr_Vi (n := 4) (rest := []) h 8 rfl rfl (k_X4_has l D cI cC xa xb xc xd xe xf xg xh tl g Fbi wh se pi (nI d) al tp bd i0 (nI (k / 144)) (11 - (nI ((k / 12) % 12))) (nI (k % 12)) (by omega)) w_methodLink_X4_26 w_instanceMethod_X4_has w_selects_X4_has w_initialized_X4 w_code_X4_has (by decide +kernel) rfl rfl rfl ⟨by decide, by decide⟩ rfl (Nat.le_of_ble_eq_true rfl) ⟨Nat.zero_le _, Nat.zero_le _⟩ dX4_mirror_97) ?_
                refine hv_bif_eq h 113 dX4_mirror_100 rfl (fun c100 => ?_) (fun c100 => ?_)
                · refine hv_iinc h (nI (k + 1)) [(3, .int (nI (k + 1))), (6, .int (nI (k % 12))), (5, .int (nI ((k / 12) % 12))), (4, .int (nI (k / 144))), (0, .ref (g 8)), (1, .int (nI i0)), (2, .int ax)] dX4_mirror_113 3 rfl (hs_inc _) (by decide) rfl ?_
                  refine hv_goto h 22 dX4_mirror_116 rfl ?_
                  refine hs_pick (lv' := [(3, .int (nI (k + 1))), (0, .ref (g 8)), (1, .int (nI i0)), (2, .int ax)]) [0, 4, 5, 6] rfl ?_
                  exact ih22 (k + 1) (by omega) _ (by rw [hx_it_s, ← e_Fbi]; unfold hy_mc; rw [if_neg c54, if_pos c69, if_neg c84, c100]; first | done | rfl)
                · refine hv_aload_n h dX4_mirror_103 4 rfl rfl ?_
                  refine hv_iload h dX4_mirror_104 2 rfl ?_
                  refine hv_iload h dX4_mirror_106 1 rfl ?_
                  refine hv_iload h dX4_mirror_108 0 rfl ?_
                  refine hv_callw (ws' := (hmW xa xb xc xd xe xf xg xh tl g cI (hy_put Fbi (k / 144) ((k / 12) % 12) (nI (k % 12))) wh se pi (nI d) al tp bd)) h (hr_Vv (n := 3) (rest := []) h 8 rfl rfl (k_X4_put l D cI cC xa xb xc xd xe xf xg xh tl g Fbi wh se pi (nI d) al tp bd (k / 144) ((k / 12) % 12) (nI (k % 12)) (by omega) (by omega)) w_methodLink_X4_52 w_instanceMethod_X4_put w_selects_X4_put w_initialized_X4 w_code_X4_put (by decide +kernel) rfl rfl rfl ⟨by decide, by decide⟩ rfl (Nat.le_of_ble_eq_true rfl) ⟨Nat.zero_le _, Nat.zero_le _⟩ dX4_mirror_110) ?_
                  refine hv_iinc h (nI (k + 1)) [(3, .int (nI (k + 1))), (6, .int (nI (k % 12))), (5, .int (nI ((k / 12) % 12))), (4, .int (nI (k / 144))), (0, .ref (g 8)), (1, .int (nI i0)), (2, .int ax)] dX4_mirror_113 3 rfl (hs_inc _) (by decide) rfl ?_
                  refine hv_goto h 22 dX4_mirror_116 rfl ?_
                  refine hs_pick (lv' := [(3, .int (nI (k + 1))), (0, .ref (g 8)), (1, .int (nI i0)), (2, .int ax)]) [0, 4, 5, 6] rfl ?_
                  exact ih22 (k + 1) (by omega) _ (by rw [hx_it_s, ← e_Fbi]; unfold hy_mc; rw [if_neg c54, if_pos c69, if_neg c84, c100]; first | done | rfl)
              · refine hv_bipush h (11) dX4_mirror_87 (by decide) ?_
                refine hv_iload h dX4_mirror_89 0 rfl ?_
                refine hv_isub h dX4_mirror_91 ?_
                refine hv_goto h 97 dX4_mirror_92 rfl ?_
                refine hv_callp (ws' := (hmW xa xb xc xd xe xf xg xh tl g cI Fbi wh se pi (nI d) al tp bd)) (v := hx_b (hy_has Fbi i0 (nI (k / 144)) (11 - (nI ((k / 12) % 12))) (11 - (nI (k % 12))))) h (hr_Vi (n := 4) (rest := []) h 8 rfl rfl (k_X4_has l D cI cC xa xb xc xd xe xf xg xh tl g Fbi wh se pi (nI d) al tp bd i0 (nI (k / 144)) (11 - (nI ((k / 12) % 12))) (11 - (nI (k % 12))) (by omega)) w_methodLink_X4_26 w_instanceMethod_X4_has w_selects_X4_has w_initialized_X4 w_code_X4_has (by decide +kernel) rfl rfl rfl ⟨by decide, by decide⟩ rfl (Nat.le_of_ble_eq_true rfl) ⟨Nat.zero_le _, Nat.zero_le _⟩ dX4_mirror_97) ?_
                refine hv_bif_eq h 113 dX4_mirror_100 rfl (fun c100 => ?_) (fun c100 => ?_)
                · refine hv_iinc h (nI (k + 1)) [(3, .int (nI (k + 1))), (6, .int (nI (k % 12))), (5, .int (nI ((k / 12) % 12))), (4, .int (nI (k / 144))), (0, .ref (g 8)), (1, .int (nI i0)), (2, .int ax)] dX4_mirror_113 3 rfl (hs_inc _) (by decide) rfl ?_
                  refine hv_goto h 22 dX4_mirror_116 rfl ?_
                  refine hs_pick (lv' := [(3, .int (nI (k + 1))), (0, .ref (g 8)), (1, .int (nI i0)), (2, .int ax)]) [0, 4, 5, 6] rfl ?_
                  exact ih22 (k + 1) (by omega) _ (by rw [hx_it_s, ← e_Fbi]; unfold hy_mc; rw [if_neg c54, if_pos c69, if_pos c84, c100]; first | done | rfl)
                · refine hv_aload_n h dX4_mirror_103 4 rfl rfl ?_
                  refine hv_iload h dX4_mirror_104 2 rfl ?_
                  refine hv_iload h dX4_mirror_106 1 rfl ?_
                  refine hv_iload h dX4_mirror_108 0 rfl ?_
                  refine hv_callw (ws' := (hmW xa xb xc xd xe xf xg xh tl g cI (hy_put Fbi (k / 144) ((k / 12) % 12) (nI (k % 12))) wh se pi (nI d) al tp bd)) h (hr_Vv (n := 3) (rest := []) h 8 rfl rfl (k_X4_put l D cI cC xa xb xc xd xe xf xg xh tl g Fbi wh se pi (nI d) al tp bd (k / 144) ((k / 12) % 12) (nI (k % 12)) (by omega) (by omega)) w_methodLink_X4_52 w_instanceMethod_X4_put w_selects_X4_put w_initialized_X4 w_code_X4_put (by decide +kernel) rfl rfl rfl ⟨by decide, by decide⟩ rfl (Nat.le_of_ble_eq_true rfl) ⟨Nat.zero_le _, Nat.zero_le _⟩ dX4_mirror_110) ?_
                  refine hv_iinc h (nI (k + 1)) [(3, .int (nI (k + 1))), (6, .int (nI (k % 12))), (5, .int (nI ((k / 12) % 12))), (4, .int (nI (k / 144))), (0, .ref (g 8)), (1, .int (nI i0)), (2, .int ax)] dX4_mirror_113 3 rfl (hs_inc _) (by decide) rfl ?_
                  refine hv_goto h 22 dX4_mirror_116 rfl ?_
                  refine hs_pick (lv' := [(3, .int (nI (k + 1))), (0, .ref (g 8)), (1, .int (nI i0)), (2, .int ax)]) [0, 4, 5, 6] rfl ?_
                  exact ih22 (k + 1) (by omega) _ (by rw [hx_it_s, ← e_Fbi]; unfold hy_mc; rw [if_neg c54, if_pos c69, if_pos c84, c100]; first | done | rfl)
          · refine hv_bipush h (11) dX4_mirror_57 (by decide) ?_
            refine hv_iload h dX4_mirror_59 2 rfl ?_
            refine hv_isub h dX4_mirror_61 ?_
            refine hv_goto h 67 dX4_mirror_62 rfl ?_
            refine hv_iload_n h dX4_mirror_67 6 rfl rfl ?_
            refine hv_iconst h (1) dX4_mirror_68 (by decide) ?_
            refine hv_icmp_ne h 80 dX4_mirror_69 rfl (fun c69 => ?_) (fun c69 => ?_)
            · refine hv_iload h dX4_mirror_80 1 rfl ?_
              refine hv_iload_n h dX4_mirror_82 6 rfl rfl ?_
              refine hv_iconst h (2) dX4_mirror_83 (by decide) ?_
              refine hv_icmp_ne h 95 dX4_mirror_84 rfl (fun c84 => ?_) (fun c84 => ?_)
              · refine hv_iload h dX4_mirror_95 0 rfl ?_
                refine hv_callp (ws' := (hmW xa xb xc xd xe xf xg xh tl g cI Fbi wh se pi (nI d) al tp bd)) (v := hx_b (hy_has Fbi i0 (11 - (nI (k / 144))) (nI ((k / 12) % 12)) (nI (k % 12)))) h (hr_Vi (n := 4) (rest := []) h 8 rfl rfl (k_X4_has l D cI cC xa xb xc xd xe xf xg xh tl g Fbi wh se pi (nI d) al tp bd i0 (11 - (nI (k / 144))) (nI ((k / 12) % 12)) (nI (k % 12)) (by omega)) w_methodLink_X4_26 w_instanceMethod_X4_has w_selects_X4_has w_initialized_X4 w_code_X4_has (by decide +kernel) rfl rfl rfl ⟨by decide, by decide⟩ rfl (Nat.le_of_ble_eq_true rfl) ⟨Nat.zero_le _, Nat.zero_le _⟩ dX4_mirror_97) ?_
                refine hv_bif_eq h 113 dX4_mirror_100 rfl (fun c100 => ?_) (fun c100 => ?_)
                · refine hv_iinc h (nI (k + 1)) [(3, .int (nI (k + 1))), (6, .int (nI (k % 12))), (5, .int (nI ((k / 12) % 12))), (4, .int (nI (k / 144))), (0, .ref (g 8)), (1, .int (nI i0)), (2, .int ax)] dX4_mirror_113 3 rfl (hs_inc _) (by decide) rfl ?_
                  refine hv_goto h 22 dX4_mirror_116 rfl ?_
                  refine hs_pick (lv' := [(3, .int (nI (k + 1))), (0, .ref (g 8)), (1, .int (nI i0)), (2, .int ax)]) [0, 4, 5, 6] rfl ?_
                  exact ih22 (k + 1) (by omega) _ (by rw [hx_it_s, ← e_Fbi]; unfold hy_mc; rw [if_pos c54, if_neg c69, if_neg c84, c100]; first | done | rfl)
                · refine hv_aload_n h dX4_mirror_103 4 rfl rfl ?_
                  refine hv_iload h dX4_mirror_104 2 rfl ?_
                  refine hv_iload h dX4_mirror_106 1 rfl ?_
                  refine hv_iload h dX4_mirror_108 0 rfl ?_
                  refine hv_callw (ws' := (hmW xa xb xc xd xe xf xg xh tl g cI (hy_put Fbi (k / 144) ((k / 12) % 12) (nI (k % 12))) wh se pi (nI d) al tp bd)) h (hr_Vv (n := 3) (rest := []) h 8 rfl rfl (k_X4_put l D cI cC xa xb xc xd xe xf xg xh tl g Fbi wh se pi (nI d) al tp bd (k / 144) ((k / 12) % 12) (nI (k % 12)) (by omega) (by omega)) w_methodLink_X4_52 w_instanceMethod_X4_put w_selects_X4_put w_initialized_X4 w_code_X4_put (by decide +kernel) rfl rfl rfl ⟨by decide, by decide⟩ rfl (Nat.le_of_ble_eq_true rfl) ⟨Nat.zero_le _, Nat.zero_le _⟩ dX4_mirror_110) ?_
                  refine hv_iinc h (nI (k + 1)) [(3, .int (nI (k + 1))), (6, .int (nI (k % 12))), (5, .int (nI ((k / 12) % 12))), (4, .int (nI (k / 144))), (0, .ref (g 8)), (1, .int (nI i0)), (2, .int ax)] dX4_mirror_113 3 rfl (hs_inc _) (by decide) rfl ?_
                  refine hv_goto h 22 dX4_mirror_116 rfl ?_
                  refine hs_pick (lv' := [(3, .int (nI (k + 1))), (0, .ref (g 8)), (1, .int (nI i0)), (2, .int ax)]) [0, 4, 5, 6] rfl ?_
                  exact ih22 (k + 1) (by omega) _ (by rw [hx_it_s, ← e_Fbi]; unfold hy_mc; rw [if_pos c54, if_neg c69, if_neg c84, c100]; first | done | rfl)
              · refine hv_bipush h (11) dX4_mirror_87 (by decide) ?_
                refine hv_iload h dX4_mirror_89 0 rfl ?_
                refine hv_isub h dX4_mirror_91 ?_
                refine hv_goto h 97 dX4_mirror_92 rfl ?_
                refine hv_callp (ws' := (hmW xa xb xc xd xe xf xg xh tl g cI Fbi wh se pi (nI d) al tp bd)) (v := hx_b (hy_has Fbi i0 (11 - (nI (k / 144))) (nI ((k / 12) % 12)) (11 - (nI (k % 12))))) h (hr_Vi (n := 4) (rest := []) h 8 rfl rfl (k_X4_has l D cI cC xa xb xc xd xe xf xg xh tl g Fbi wh se pi (nI d) al tp bd i0 (11 - (nI (k / 144))) (nI ((k / 12) % 12)) (11 - (nI (k % 12))) (by omega)) w_methodLink_X4_26 w_instanceMethod_X4_has w_selects_X4_has w_initialized_X4 w_code_X4_has (by decide +kernel) rfl rfl rfl ⟨by decide, by decide⟩ rfl (Nat.le_of_ble_eq_true rfl) ⟨Nat.zero_le _, Nat.zero_le _⟩ dX4_mirror_97) ?_
                refine hv_bif_eq h 113 dX4_mirror_100 rfl (fun c100 => ?_) (fun c100 => ?_)
                · refine hv_iinc h (nI (k + 1)) [(3, .int (nI (k + 1))), (6, .int (nI (k % 12))), (5, .int (nI ((k / 12) % 12))), (4, .int (nI (k / 144))), (0, .ref (g 8)), (1, .int (nI i0)), (2, .int ax)] dX4_mirror_113 3 rfl (hs_inc _) (by decide) rfl ?_
                  refine hv_goto h 22 dX4_mirror_116 rfl ?_
                  refine hs_pick (lv' := [(3, .int (nI (k + 1))), (0, .ref (g 8)), (1, .int (nI i0)), (2, .int ax)]) [0, 4, 5, 6] rfl ?_
                  exact ih22 (k + 1) (by omega) _ (by rw [hx_it_s, ← e_Fbi]; unfold hy_mc; rw [if_pos c54, if_neg c69, if_pos c84, c100]; first | done | rfl)
                · refine hv_aload_n h dX4_mirror_103 4 rfl rfl ?_
                  refine hv_iload h dX4_mirror_104 2 rfl ?_
                  refine hv_iload h dX4_mirror_106 1 rfl ?_
                  refine hv_iload h dX4_mirror_108 0 rfl ?_
                  refine hv_callw (ws' := (hmW xa xb xc xd xe xf xg xh tl g cI (hy_put Fbi (k / 144) ((k / 12) % 12) (nI (k % 12))) wh se pi (nI d) al tp bd)) h (hr_Vv (n := 3) (rest := []) h 8 rfl rfl (k_X4_put l D cI cC xa xb xc xd xe xf xg xh tl g Fbi wh se pi (nI d) al tp bd (k / 144) ((k / 12) % 12) (nI (k % 12)) (by omega) (by omega)) w_methodLink_X4_52 w_instanceMethod_X4_put w_selects_X4_put w_initialized_X4 w_code_X4_put (by decide +kernel) rfl rfl rfl ⟨by decide, by decide⟩ rfl (Nat.le_of_ble_eq_true rfl) ⟨Nat.zero_le _, Nat.zero_le _⟩ dX4_mirror_110) ?_
                  refine hv_iinc h (nI (k + 1)) [(3, .int (nI (k + 1))), (6, .int (nI (k % 12))), (5, .int (nI ((k / 12) % 12))), (4, .int (nI (k / 144))), (0, .ref (g 8)), (1, .int (nI i0)), (2, .int ax)] dX4_mirror_113 3 rfl (hs_inc _) (by decide) rfl ?_
                  refine hv_goto h 22 dX4_mirror_116 rfl ?_
                  refine hs_pick (lv' := [(3, .int (nI (k + 1))), (0, .ref (g 8)), (1, .int (nI i0)), (2, .int ax)]) [0, 4, 5, 6] rfl ?_
                  exact ih22 (k + 1) (by omega) _ (by rw [hx_it_s, ← e_Fbi]; unfold hy_mc; rw [if_pos c54, if_neg c69, if_pos c84, c100]; first | done | rfl)
            · refine hv_bipush h (11) dX4_mirror_72 (by decide) ?_
              refine hv_iload h dX4_mirror_74 1 rfl ?_
              refine hv_isub h dX4_mirror_76 ?_
              refine hv_goto h 82 dX4_mirror_77 rfl ?_
              refine hv_iload_n h dX4_mirror_82 6 rfl rfl ?_
              refine hv_iconst h (2) dX4_mirror_83 (by decide) ?_
              refine hv_icmp_ne h 95 dX4_mirror_84 rfl (fun c84 => ?_) (fun c84 => ?_)
              · refine hv_iload h dX4_mirror_95 0 rfl ?_
                refine hv_callp (ws' := (hmW xa xb xc xd xe xf xg xh tl g cI Fbi wh se pi (nI d) al tp bd)) (v := hx_b (hy_has Fbi i0 (11 - (nI (k / 144))) (11 - (nI ((k / 12) % 12))) (nI (k % 12)))) h (hr_Vi (n := 4) (rest := []) h 8 rfl rfl (k_X4_has l D cI cC xa xb xc xd xe xf xg xh tl g Fbi wh se pi (nI d) al tp bd i0 (11 - (nI (k / 144))) (11 - (nI ((k / 12) % 12))) (nI (k % 12)) (by omega)) w_methodLink_X4_26 w_instanceMethod_X4_has w_selects_X4_has w_initialized_X4 w_code_X4_has (by decide +kernel) rfl rfl rfl ⟨by decide, by decide⟩ rfl (Nat.le_of_ble_eq_true rfl) ⟨Nat.zero_le _, Nat.zero_le _⟩ dX4_mirror_97) ?_
                refine hv_bif_eq h 113 dX4_mirror_100 rfl (fun c100 => ?_) (fun c100 => ?_)
                · refine hv_iinc h (nI (k + 1)) [(3, .int (nI (k + 1))), (6, .int (nI (k % 12))), (5, .int (nI ((k / 12) % 12))), (4, .int (nI (k / 144))), (0, .ref (g 8)), (1, .int (nI i0)), (2, .int ax)] dX4_mirror_113 3 rfl (hs_inc _) (by decide) rfl ?_
                  refine hv_goto h 22 dX4_mirror_116 rfl ?_
                  refine hs_pick (lv' := [(3, .int (nI (k + 1))), (0, .ref (g 8)), (1, .int (nI i0)), (2, .int ax)]) [0, 4, 5, 6] rfl ?_
                  exact ih22 (k + 1) (by omega) _ (by rw [hx_it_s, ← e_Fbi]; unfold hy_mc; rw [if_pos c54, if_pos c69, if_neg c84, c100]; first | done | rfl)
                · refine hv_aload_n h dX4_mirror_103 4 rfl rfl ?_
                  refine hv_iload h dX4_mirror_104 2 rfl ?_
                  refine hv_iload h dX4_mirror_106 1 rfl ?_
                  refine hv_iload h dX4_mirror_108 0 rfl ?_
                  refine hv_callw (ws' := (hmW xa xb xc xd xe xf xg xh tl g cI (hy_put Fbi (k / 144) ((k / 12) % 12) (nI (k % 12))) wh se pi (nI d) al tp bd)) h (hr_Vv (n := 3) (rest := []) h 8 rfl rfl (k_X4_put l D cI cC xa xb xc xd xe xf xg xh tl g Fbi wh se pi (nI d) al tp bd (k / 144) ((k / 12) % 12) (nI (k % 12)) (by omega) (by omega)) w_methodLink_X4_52 w_instanceMethod_X4_put w_selects_X4_put w_initialized_X4 w_code_X4_put (by decide +kernel) rfl rfl rfl ⟨by decide, by decide⟩ rfl (Nat.le_of_ble_eq_true rfl) ⟨Nat.zero_le _, Nat.zero_le _⟩ dX4_mirror_110) ?_
                  refine hv_iinc h (nI (k + 1)) [(3, .int (nI (k + 1))), (6, .int (nI (k % 12))), (5, .int (nI ((k / 12) % 12))), (4, .int (nI (k / 144))), (0, .ref (g 8)), (1, .int (nI i0)), (2, .int ax)] dX4_mirror_113 3 rfl (hs_inc _) (by decide) rfl ?_
                  refine hv_goto h 22 dX4_mirror_116 rfl ?_
                  refine hs_pick (lv' := [(3, .int (nI (k + 1))), (0, .ref (g 8)), (1, .int (nI i0)), (2, .int ax)]) [0, 4, 5, 6] rfl ?_
                  exact ih22 (k + 1) (by omega) _ (by rw [hx_it_s, ← e_Fbi]; unfold hy_mc; rw [if_pos c54, if_pos c69, if_neg c84, c100]; first | done | rfl)
              · refine hv_bipush h (11) dX4_mirror_87 (by decide) ?_
                refine hv_iload h dX4_mirror_89 0 rfl ?_
                refine hv_isub h dX4_mirror_91 ?_
                refine hv_goto h 97 dX4_mirror_92 rfl ?_
                refine hv_callp (ws' := (hmW xa xb xc xd xe xf xg xh tl g cI Fbi wh se pi (nI d) al tp bd)) (v := hx_b (hy_has Fbi i0 (11 - (nI (k / 144))) (11 - (nI ((k / 12) % 12))) (11 - (nI (k % 12))))) h (hr_Vi (n := 4) (rest := []) h 8 rfl rfl (k_X4_has l D cI cC xa xb xc xd xe xf xg xh tl g Fbi wh se pi (nI d) al tp bd i0 (11 - (nI (k / 144))) (11 - (nI ((k / 12) % 12))) (11 - (nI (k % 12))) (by omega)) w_methodLink_X4_26 w_instanceMethod_X4_has w_selects_X4_has w_initialized_X4 w_code_X4_has (by decide +kernel) rfl rfl rfl ⟨by decide, by decide⟩ rfl (Nat.le_of_ble_eq_true rfl) ⟨Nat.zero_le _, Nat.zero_le _⟩ dX4_mirror_97) ?_
                refine hv_bif_eq h 113 dX4_mirror_100 rfl (fun c100 => ?_) (fun c100 => ?_)
                · refine hv_iinc h (nI (k + 1)) [(3, .int (nI (k + 1))), (6, .int (nI (k % 12))), (5, .int (nI ((k / 12) % 12))), (4, .int (nI (k / 144))), (0, .ref (g 8)), (1, .int (nI i0)), (2, .int ax)] dX4_mirror_113 3 rfl (hs_inc _) (by decide) rfl ?_
                  refine hv_goto h 22 dX4_mirror_116 rfl ?_
                  refine hs_pick (lv' := [(3, .int (nI (k + 1))), (0, .ref (g 8)), (1, .int (nI i0)), (2, .int ax)]) [0, 4, 5, 6] rfl ?_
                  exact ih22 (k + 1) (by omega) _ (by rw [hx_it_s, ← e_Fbi]; unfold hy_mc; rw [if_pos c54, if_pos c69, if_pos c84, c100]; first | done | rfl)
                · refine hv_aload_n h dX4_mirror_103 4 rfl rfl ?_
                  refine hv_iload h dX4_mirror_104 2 rfl ?_
                  refine hv_iload h dX4_mirror_106 1 rfl ?_
                  refine hv_iload h dX4_mirror_108 0 rfl ?_
                  refine hv_callw (ws' := (hmW xa xb xc xd xe xf xg xh tl g cI (hy_put Fbi (k / 144) ((k / 12) % 12) (nI (k % 12))) wh se pi (nI d) al tp bd)) h (hr_Vv (n := 3) (rest := []) h 8 rfl rfl (k_X4_put l D cI cC xa xb xc xd xe xf xg xh tl g Fbi wh se pi (nI d) al tp bd (k / 144) ((k / 12) % 12) (nI (k % 12)) (by omega) (by omega)) w_methodLink_X4_52 w_instanceMethod_X4_put w_selects_X4_put w_initialized_X4 w_code_X4_put (by decide +kernel) rfl rfl rfl ⟨by decide, by decide⟩ rfl (Nat.le_of_ble_eq_true rfl) ⟨Nat.zero_le _, Nat.zero_le _⟩ dX4_mirror_110) ?_
                  refine hv_iinc h (nI (k + 1)) [(3, .int (nI (k + 1))), (6, .int (nI (k % 12))), (5, .int (nI ((k / 12) % 12))), (4, .int (nI (k / 144))), (0, .ref (g 8)), (1, .int (nI i0)), (2, .int ax)] dX4_mirror_113 3 rfl (hs_inc _) (by decide) rfl ?_
                  refine hv_goto h 22 dX4_mirror_116 rfl ?_
                  refine hs_pick (lv' := [(3, .int (nI (k + 1))), (0, .ref (g 8)), (1, .int (nI i0)), (2, .int ax)]) [0, 4, 5, 6] rfl ?_
                  exact ih22 (k + 1) (by omega) _ (by rw [hx_it_s, ← e_Fbi]; unfold hy_mc; rw [if_pos c54, if_pos c69, if_pos c84, c100]; first | done | rfl)
      exact L22 1728 0 (by omega) _ rfl
    · refine hv_iconst h ((-1)) dX4_mirror_14 (by decide) ?_
      exact hv_iret h hr hlk hQ dX4_mirror_15 (Or.inl ⟨by simp [c4, c11], rfl, rfl⟩)
abbrev rX4_shift : Room := { frames := 2, cells := 0, slots := 0, locals := 45 }
set_option maxHeartbeats 1000000 in
set_option maxRecDepth 100000 in
theorem k_X4_shift (l : Launch) (D : va_G) (cI cC : ClassId) (xa xb xc xd xe xf xg xh : Nat × va_E) (tl : va_W) (g : Nat → Nat) (bi wh se pi : Nat → Int32) (d : Nat) (al tp bd : Int32) (s0 dx dy dz : Int32) (hd : d ≤ 12) : hsI l yX4_shift wsX4_shift rX4_shift D vwCl (hsT cI cC) [.ref (g 8), .int s0, .int dx, .int dy, .int dz] (hmW xa xb xc xd xe xf xg xh tl g cI bi wh se pi (nI d) al tp bd) (fun r w => (hx_in s0 6 = false ∧ r = -1 ∧ w = (hmW xa xb xc xd xe xf xg xh tl g cI bi wh se pi (nI d) al tp bd)) ∨ (∃ i0 k : Nat, i0 < 6 ∧ s0 = nI i0 ∧ k < 1728 ∧ hy_sbad bi i0 dx dy dz k = true ∧ r = -2 ∧ w = (hmW xa xb xc xd xe xf xg xh tl g cI (hy_shf bi i0 dx dy dz k) wh se pi (nI d) al tp bd)) ∨ (∃ i0 : Nat, i0 < 6 ∧ s0 = nI i0 ∧ (∀ k, k < 1728 → hy_sbad bi i0 dx dy dz k = false) ∧ r = hy_cnt (hy_stp (hy_shf bi i0 dx dy dz 1728) wh d i0).1 i0 ∧ w = (hmW xa xb xc xd xe xf xg xh tl g cI ((hy_stp (hy_shf bi i0 dx dy dz 1728) wh d i0).1) ((hy_stp (hy_shf bi i0 dx dy dz 1728) wh d i0).2) se pi (nI (hq_d d + 1)) (nI (hq_d d + 1)) tp bd))) := by
  refine hsI.enter (cc := cX4_shift) (maxL := 9) (ret := (some .int)) (by decide) rfl (Nat.le_of_ble_eq_true rfl) ?_
  intro Pg En Ss Mi Ar Be Me Co AA QQ hQ h hr hlk
  refine hs_lv (lv' := [(0, .ref (g 8)), (1, .int s0), (2, .int dx), (3, .int dy), (4, .int dz)]) rfl ?_
  refine hv_iload_n h dX4_shift_0 1 rfl rfl ?_
  refine hv_callp (ws' := (hmW xa xb xc xd xe xf xg xh tl g cI bi wh se pi (nI d) al tp bd)) (v := hx_b (hx_in s0 6)) h (hr_Si (n := 1) (rest := []) h (k_X4_isSolid l D cI cC (hmW xa xb xc xd xe xf xg xh tl g cI bi wh se pi (nI d) al tp bd) s0) w_methodLink_X4_45 w_static_X4_isSolid w_initialized_X4 w_code_X4_isSolid (by decide +kernel) rfl rfl rfl ⟨by decide, by decide⟩ rfl (Nat.le_of_ble_eq_true rfl) ⟨Nat.zero_le _, Nat.zero_le _⟩ dX4_shift_1) ?_
  refine hv_bif_ne h 9 dX4_shift_4 rfl (fun c4 => ?_) (fun c4 => ?_)
  · obtain ⟨i0, hi0, rfl⟩ := hx_in_nat (n := 6) (by decide) c4
    have hcli0 : (nI i0).toNatClampNeg = i0 := nI_clamp (by omega)
    refine hv_aload_n h dX4_shift_9 0 rfl rfl ?_
    refine hv_callw (ws' := (hmW xa xb xc xd xe xf xg xh tl g cI (hy_clr bi) wh se pi (nI d) al tp bd)) h (hr_Vv (n := 0) (rest := []) h 8 rfl rfl (k_X4_clearDraft l D cI cC xa xb xc xd xe xf xg xh tl g bi wh se pi (nI d) al tp bd  ) w_methodLink_X4_49 w_instanceMethod_X4_clearDraft w_selects_X4_clearDraft w_initialized_X4 w_code_X4_clearDraft (by decide +kernel) rfl rfl rfl ⟨by decide, by decide⟩ rfl (Nat.le_of_ble_eq_true rfl) ⟨Nat.zero_le _, Nat.zero_le _⟩ dX4_shift_10) ?_
    refine hv_iconst h (nI 0) dX4_shift_13 (by decide) ?_
    refine hv_istore h [(5, .int (nI 0)), (0, .ref (g 8)), (1, .int (nI i0)), (2, .int dx), (3, .int dy), (4, .int dz)] dX4_shift_14 (by decide) rfl ?_
    have L16 : ∀ d16 k : Nat, k + d16 = 1728 → (∀ j, j < k → hy_sbad bi i0 dx dy dz j = false) → ∀ (Fbi : Nat → Int32), Fbi = hy_shf bi i0 dx dy dz k → hsV Pg l En rX4_shift Ss Mi Ar Be Me Co QQ 9 D vwCl AA Ss.heap 0 0 16 [(5, .int (nI k)), (0, .ref (g 8)), (1, .int (nI i0)), (2, .int dx), (3, .int dy), (4, .int dz)] (hmW xa xb xc xd xe xf xg xh tl g cI Fbi wh se pi (nI d) al tp bd) [] := by
      intro d16
      induction d16 with
      | zero =>
        intro k kq16 gk Fbi e_Fbi
        obtain rfl : k = 1728 := by omega
        refine hv_iload h dX4_shift_16 0 rfl ?_
        refine hv_sipush h (nI 1728) dX4_shift_18 (by decide) ?_
        refine hv_icmp_ge h 123 dX4_shift_21 rfl (fun c21 => ?_) (fun hc => absurd (Int32.le_refl _) hc)
        refine hv_aload_n h dX4_shift_123 1 rfl rfl ?_
        refine hv_iload_n h dX4_shift_124 2 rfl rfl ?_
        refine hv_callp (ws' := (hmW xa xb xc xd xe xf xg xh tl g cI ((hy_stp Fbi wh d i0).1) ((hy_stp Fbi wh d i0).2) se pi (nI (hq_d d + 1)) (nI (hq_d d + 1)) tp bd)) (v := hy_cnt (hy_stp Fbi wh d i0).1 i0) h (hr_Vi (n := 1) (rest := []) h 8 rfl rfl (k_X4_step l D cI cC xa xb xc xd xe xf xg xh tl g Fbi wh se pi d al tp bd i0 hi0 hd) w_methodLink_X4_56 w_instanceMethod_X4_step w_selects_X4_step w_initialized_X4 w_code_X4_step (by decide +kernel) rfl rfl rfl ⟨by decide, by decide⟩ rfl (Nat.le_of_ble_eq_true rfl) ⟨Nat.zero_le _, Nat.zero_le _⟩ dX4_shift_125) ?_
        exact hv_iret h hr hlk hQ dX4_shift_128 (Or.inr (Or.inr ⟨i0, hi0, rfl, gk, by rw [e_Fbi], by rw [e_Fbi]⟩))
      | succ d16 ih16 =>
        intro k kq16 gk Fbi e_Fbi
        have hlt16 : k < 1728 := by omega
        refine hv_iload h dX4_shift_16 0 rfl ?_
        refine hv_sipush h (nI 1728) dX4_shift_18 (by decide) ?_
        refine hv_icmp_ge h 123 dX4_shift_21 rfl (fun hc => absurd hc (nI_ge hlt16 (by decide))) (fun c21 => ?_)
        refine hv_aload_n h dX4_shift_24 1 rfl rfl ?_
        refine hv_iload_n h dX4_shift_25 2 rfl rfl ?_
        refine hv_iload h dX4_shift_26 0 rfl ?_
        refine hv_sipush h (144) dX4_shift_28 (by decide) ?_
        refine hw_idiv h (nI (k / 144)) dX4_shift_31 (by decide) (pk_div (by omega) (by decide) (by decide)) ?_
        refine hv_iload h dX4_shift_32 0 rfl ?_
        refine hv_bipush h (12) dX4_shift_34 (by decide) ?_
        refine hw_idiv h (nI (k / 12)) dX4_shift_36 (by decide) (pk_div (by omega) (by decide) (by decide)) ?_
        refine hv_bipush h (12) dX4_shift_37 (by decide) ?_
        refine hw_irem h (nI ((k / 12) % 12)) dX4_shift_39 (by decide) (pk_rem (by omega) (by decide) (by decide)) ?_
        refine hv_iload h dX4_shift_40 0 rfl ?_
        refine hv_bipush h (12) dX4_shift_42 (by decide) ?_
        refine hw_irem h (nI (k % 12)) dX4_shift_44 (by decide) (pk_rem (by omega) (by decide) (by decide)) ?_
        refine hv_callp (ws' := (hmW xa xb xc xd xe xf xg xh tl g cI Fbi wh se pi (nI d) al tp bd)) (v := hx_b (hy_has Fbi i0 (nI (k / 144)) (nI ((k / 12) % 12)) (nI (k % 12)))) h (hr_Vi (n := 4) (rest := []) h 8 rfl rfl (k_X4_has l D cI cC xa xb xc xd xe xf xg xh tl g Fbi wh se pi (nI d) al tp bd i0 (nI (k / 144)) (nI ((k / 12) % 12)) (nI (k % 12)) (by omega)) w_methodLink_X4_26 w_instanceMethod_X4_has w_selects_X4_has w_initialized_X4 w_code_X4_has (by decide +kernel) rfl rfl rfl ⟨by decide, by decide⟩ rfl (Nat.le_of_ble_eq_true rfl) ⟨Nat.zero_le _, Nat.zero_le _⟩ dX4_shift_45) ?_
        refine hv_bif_eq h 117 dX4_shift_48 rfl (fun c48 => ?_) (fun c48 => ?_)
        · refine hv_iinc h (nI (k + 1)) [(5, .int (nI (k + 1))), (0, .ref (g 8)), (1, .int (nI i0)), (2, .int dx), (3, .int dy), (4, .int dz)] dX4_shift_117 0 rfl (hs_inc _) (by decide) rfl ?_
          refine hv_goto h 16 dX4_shift_120 rfl ?_
          exact ih16 (k + 1) (by omega) (lt_s gk (by simp [hy_sbad, ← e_Fbi, c48])) _ (by rw [hy_shf_s, ← e_Fbi]; simp [c48])
        · refine hv_iload h dX4_shift_51 0 rfl ?_
          refine hv_sipush h (144) dX4_shift_53 (by decide) ?_
          refine hw_idiv h (nI (k / 144)) dX4_shift_56 (by decide) (pk_div (by omega) (by decide) (by decide)) ?_
          refine hv_iload_n h dX4_shift_57 3 rfl rfl ?_
          refine hv_callp (ws' := (hmW xa xb xc xd xe xf xg xh tl g cI Fbi wh se pi (nI d) al tp bd)) (v := hy_shd (nI (k / 144)) dx) h (hr_Si (n := 2) (rest := []) h (k_X4_shifted l D cI cC (hmW xa xb xc xd xe xf xg xh tl g cI Fbi wh se pi (nI d) al tp bd) (nI (k / 144)) dx) w_methodLink_X4_62 w_static_X4_shifted w_initialized_X4 w_code_X4_shifted (by decide +kernel) rfl rfl rfl ⟨by decide, by decide⟩ rfl (Nat.le_of_ble_eq_true rfl) ⟨Nat.zero_le _, Nat.zero_le _⟩ dX4_shift_58) ?_
          refine hv_istore h [(6, .int (hy_shd (nI (k / 144)) dx)), (5, .int (nI k)), (0, .ref (g 8)), (1, .int (nI i0)), (2, .int dx), (3, .int dy), (4, .int dz)] dX4_shift_61 (by decide) rfl ?_
          refine hv_iload h dX4_shift_63 1 rfl ?_
          refine hv_bipush h (12) dX4_shift_65 (by decide) ?_
          refine hw_idiv h (nI (k / 12)) dX4_shift_67 (by decide) (pk_div (by omega) (by decide) (by decide)) ?_
          refine hv_bipush h (12) dX4_shift_68 (by decide) ?_
          refine hw_irem h (nI ((k / 12) % 12)) dX4_shift_70 (by decide) (pk_rem (by omega) (by decide) (by decide)) ?_
          refine hv_iload_n h dX4_shift_71 5 rfl rfl ?_
          refine hv_callp (ws' := (hmW xa xb xc xd xe xf xg xh tl g cI Fbi wh se pi (nI d) al tp bd)) (v := hy_shd (nI ((k / 12) % 12)) dy) h (hr_Si (n := 2) (rest := []) h (k_X4_shifted l D cI cC (hmW xa xb xc xd xe xf xg xh tl g cI Fbi wh se pi (nI d) al tp bd) (nI ((k / 12) % 12)) dy) w_methodLink_X4_62 w_static_X4_shifted w_initialized_X4 w_code_X4_shifted (by decide +kernel) rfl rfl rfl ⟨by decide, by decide⟩ rfl (Nat.le_of_ble_eq_true rfl) ⟨Nat.zero_le _, Nat.zero_le _⟩ dX4_shift_72) ?_
          refine hv_istore h [(7, .int (hy_shd (nI ((k / 12) % 12)) dy)), (6, .int (hy_shd (nI (k / 144)) dx)), (5, .int (nI k)), (0, .ref (g 8)), (1, .int (nI i0)), (2, .int dx), (3, .int dy), (4, .int dz)] dX4_shift_75 (by decide) rfl ?_
          refine hv_iload h dX4_shift_77 2 rfl ?_
          refine hv_bipush h (12) dX4_shift_79 (by decide) ?_
          refine hw_irem h (nI (k % 12)) dX4_shift_81 (by decide) (pk_rem (by omega) (by decide) (by decide)) ?_
          refine hv_iload h dX4_shift_82 7 rfl ?_
          refine hv_callp (ws' := (hmW xa xb xc xd xe xf xg xh tl g cI Fbi wh se pi (nI d) al tp bd)) (v := hy_shd (nI (k % 12)) dz) h (hr_Si (n := 2) (rest := []) h (k_X4_shifted l D cI cC (hmW xa xb xc xd xe xf xg xh tl g cI Fbi wh se pi (nI d) al tp bd) (nI (k % 12)) dz) w_methodLink_X4_62 w_static_X4_shifted w_initialized_X4 w_code_X4_shifted (by decide +kernel) rfl rfl rfl ⟨by decide, by decide⟩ rfl (Nat.le_of_ble_eq_true rfl) ⟨Nat.zero_le _, Nat.zero_le _⟩ dX4_shift_84) ?_
          refine hv_istore h [(8, .int (hy_shd (nI (k % 12)) dz)), (7, .int (hy_shd (nI ((k / 12) % 12)) dy)), (6, .int (hy_shd (nI (k / 144)) dx)), (5, .int (nI k)), (0, .ref (g 8)), (1, .int (nI i0)), (2, .int dx), (3, .int dy), (4, .int dz)] dX4_shift_87 (by decide) rfl ?_
          refine hv_iload h dX4_shift_89 2 rfl ?_
          refine hv_if_lt h 104 dX4_shift_91 rfl (fun c91 => ?_) (fun c91 => ?_)
          · refine hv_bipush h ((-2)) dX4_shift_104 (by decide) ?_
            exact hv_iret h hr hlk hQ dX4_shift_106 (Or.inr (Or.inl ⟨i0, k, hi0, rfl, hlt16, by simp [hy_sbad, ← e_Fbi, c48, c91], rfl, by rw [e_Fbi]⟩))
          · refine hv_iload h dX4_shift_94 1 rfl ?_
            refine hv_if_lt h 104 dX4_shift_96 rfl (fun c96 => ?_) (fun c96 => ?_)
            · refine hv_bipush h ((-2)) dX4_shift_104 (by decide) ?_
              exact hv_iret h hr hlk hQ dX4_shift_106 (Or.inr (Or.inl ⟨i0, k, hi0, rfl, hlt16, by simp [hy_sbad, ← e_Fbi, c48, c91, c96], rfl, by rw [e_Fbi]⟩))
            · refine hv_iload h dX4_shift_99 0 rfl ?_
              refine hv_if_ge h 107 dX4_shift_101 rfl (fun c101 => ?_) (fun c101 => ?_)
              · have hc101 : ¬ hy_shd (nI (k % 12)) dz < 0 := Int32.not_lt.mpr c101
                obtain ⟨j0, hj0, e0⟩ := hy_shd_nat c91
                obtain ⟨j1, hj1, e1⟩ := hy_shd_nat c96
                refine hs_lv (lv' := [(8, .int (hy_shd (nI (k % 12)) dz)), (7, .int (nI j1)), (6, .int (nI j0)), (5, .int (nI k)), (0, .ref (g 8)), (1, .int (nI i0)), (2, .int dx), (3, .int dy), (4, .int dz)]) (by rw [e0, e1]) ?_
                refine hv_aload_n h dX4_shift_107 4 rfl rfl ?_
                refine hv_iload h dX4_shift_108 2 rfl ?_
                refine hv_iload h dX4_shift_110 1 rfl ?_
                refine hv_iload h dX4_shift_112 0 rfl ?_
                refine hv_callw (ws' := (hmW xa xb xc xd xe xf xg xh tl g cI (hy_put Fbi j0 j1 (hy_shd (nI (k % 12)) dz)) wh se pi (nI d) al tp bd)) h (hr_Vv (n := 3) (rest := []) h 8 rfl rfl (k_X4_put l D cI cC xa xb xc xd xe xf xg xh tl g Fbi wh se pi (nI d) al tp bd j0 j1 (hy_shd (nI (k % 12)) dz) (by omega) (by omega)) w_methodLink_X4_52 w_instanceMethod_X4_put w_selects_X4_put w_initialized_X4 w_code_X4_put (by decide +kernel) rfl rfl rfl ⟨by decide, by decide⟩ rfl (Nat.le_of_ble_eq_true rfl) ⟨Nat.zero_le _, Nat.zero_le _⟩ dX4_shift_114) ?_
                refine hv_iinc h (nI (k + 1)) [(5, .int (nI (k + 1))), (8, .int (hy_shd (nI (k % 12)) dz)), (7, .int (nI j1)), (6, .int (nI j0)), (0, .ref (g 8)), (1, .int (nI i0)), (2, .int dx), (3, .int dy), (4, .int dz)] dX4_shift_117 3 rfl (hs_inc _) (by decide) rfl ?_
                refine hv_goto h 16 dX4_shift_120 rfl ?_
                refine hs_pick (lv' := [(5, .int (nI (k + 1))), (0, .ref (g 8)), (1, .int (nI i0)), (2, .int dx), (3, .int dy), (4, .int dz)]) [0, 4, 5, 6, 7, 8] rfl ?_
                exact ih16 (k + 1) (by omega) (lt_s gk (by simp [hy_sbad, ← e_Fbi, c91, c96, hc101])) _ (by rw [hy_shf_s, ← e_Fbi]; simp [c48, e0, e1, nI_clamp (show j0 < 2 ^ 31 by omega), nI_clamp (show j1 < 2 ^ 31 by omega)])
              · refine hv_bipush h ((-2)) dX4_shift_104 (by decide) ?_
                exact hv_iret h hr hlk hQ dX4_shift_106 (Or.inr (Or.inl ⟨i0, k, hi0, rfl, hlt16, by simp [hy_sbad, ← e_Fbi, c48, c91, c96, Int32.not_le.mp c101], rfl, by rw [e_Fbi]⟩))
    exact L16 1728 0 (by omega) lt_0 _ rfl
  · refine hv_iconst h ((-1)) dX4_shift_7 (by decide) ?_
    exact hv_iret h hr hlk hQ dX4_shift_8 (Or.inl ⟨c4, rfl, rfl⟩)
abbrev rX4_sweep : Room := { frames := 3, cells := 0, slots := 0, locals := 70 }
set_option maxHeartbeats 1000000 in
set_option maxRecDepth 100000 in
theorem k_X4_sweep (l : Launch) (D : va_G) (cI cC : ClassId) (xa xb xc xd xe xf xg xh : Nat × va_E) (tl : va_W) (g : Nat → Nat) (bi wh se pi : Nat → Int32) (d : Nat) (al tp bd : Int32) (s0 : Int32) (a0 : Int32) (ax : Int32) (w0 : Int32) (b0 : Int32) (b1 : Int32) (hd : d ≤ 12) : hsI l yX4_sweep wsX4_sweep rX4_sweep D vwCl (hsT cI cC) [.ref (g 8), .int s0, .int a0, .int ax, .int w0, .int b0, .int b1] (hmW xa xb xc xd xe xf xg xh tl g cI bi wh se pi (nI d) al tp bd) (fun r w => ((hx_in s0 6 && (hx_in a0 6 && (hx_in ax 3 && hx_in w0 12))) = false ∧ r = -1 ∧ w = (hmW xa xb xc xd xe xf xg xh tl g cI bi wh se pi (nI d) al tp bd)) ∨ ((hx_in s0 6 && (hx_in a0 6 && (hx_in ax 3 && hx_in w0 12))) = true ∧ (hx_in b0 12 && (hx_in b1 12 && decide (b0 ≤ b1))) = false ∧ r = -2 ∧ w = (hmW xa xb xc xd xe xf xg xh tl g cI bi wh se pi (nI d) al tp bd)) ∨ (∃ i0 : Nat, i0 < 6 ∧ s0 = nI i0 ∧ (hx_in s0 6 && (hx_in a0 6 && (hx_in ax 3 && hx_in w0 12))) = true ∧ (hx_in b0 12 && (hx_in b1 12 && decide (b0 ≤ b1))) = true ∧ r = hy_cnt (hy_stp (hx_it (fun u F => hx_it (fun v F => hy_swl a0.toNatClampNeg ax w0 u v (b1.toNatClampNeg + 1 - b0.toNatClampNeg) b0.toNatClampNeg F) 12 F) 12 (hy_clr bi)) wh d i0).1 i0 ∧ w = (hmW xa xb xc xd xe xf xg xh tl g cI ((hy_stp (hx_it (fun u F => hx_it (fun v F => hy_swl a0.toNatClampNeg ax w0 u v (b1.toNatClampNeg + 1 - b0.toNatClampNeg) b0.toNatClampNeg F) 12 F) 12 (hy_clr bi)) wh d i0).1) ((hy_stp (hx_it (fun u F => hx_it (fun v F => hy_swl a0.toNatClampNeg ax w0 u v (b1.toNatClampNeg + 1 - b0.toNatClampNeg) b0.toNatClampNeg F) 12 F) 12 (hy_clr bi)) wh d i0).2) se pi (nI (hq_d d + 1)) (nI (hq_d d + 1)) tp bd))) := by
  refine hsI.enter (cc := cX4_sweep) (maxL := 10) (ret := (some .int)) (by decide) rfl (Nat.le_of_ble_eq_true rfl) ?_
  intro Pg En Ss Mi Ar Be Me Co AA QQ hQ h hr hlk
  refine hs_lv (lv' := [(0, .ref (g 8)), (1, .int s0), (2, .int a0), (3, .int ax), (4, .int w0), (5, .int b0), (6, .int b1)]) rfl ?_
  refine hv_iload_n h dX4_sweep_0 1 rfl rfl ?_
  refine hv_callp (ws' := (hmW xa xb xc xd xe xf xg xh tl g cI bi wh se pi (nI d) al tp bd)) (v := hx_b (hx_in s0 6)) h (hr_Si (n := 1) (rest := []) h (k_X4_isSolid l D cI cC (hmW xa xb xc xd xe xf xg xh tl g cI bi wh se pi (nI d) al tp bd) s0) w_methodLink_X4_45 w_static_X4_isSolid w_initialized_X4 w_code_X4_isSolid (by decide +kernel) rfl rfl rfl ⟨by decide, by decide⟩ rfl (Nat.le_of_ble_eq_true rfl) ⟨Nat.zero_le _, Nat.zero_le _⟩ dX4_sweep_1) ?_
  refine hv_bif_eq h 31 dX4_sweep_4 rfl (fun c4 => ?_) (fun c4 => ?_)
  · refine hv_iconst h ((-1)) dX4_sweep_31 (by decide) ?_
    exact hv_iret h hr hlk hQ dX4_sweep_32 (Or.inl ⟨by simp [c4], rfl, rfl⟩)
  · refine hv_iload_n h dX4_sweep_7 2 rfl rfl ?_
    refine hv_callp (ws' := (hmW xa xb xc xd xe xf xg xh tl g cI bi wh se pi (nI d) al tp bd)) (v := hx_b (hx_in a0 6)) h (hr_Si (n := 1) (rest := []) h (k_X4_isSolid l D cI cC (hmW xa xb xc xd xe xf xg xh tl g cI bi wh se pi (nI d) al tp bd) a0) w_methodLink_X4_45 w_static_X4_isSolid w_initialized_X4 w_code_X4_isSolid (by decide +kernel) rfl rfl rfl ⟨by decide, by decide⟩ rfl (Nat.le_of_ble_eq_true rfl) ⟨Nat.zero_le _, Nat.zero_le _⟩ dX4_sweep_8) ?_
    refine hv_bif_eq h 31 dX4_sweep_11 rfl (fun c11 => ?_) (fun c11 => ?_)
    · refine hv_iconst h ((-1)) dX4_sweep_31 (by decide) ?_
      exact hv_iret h hr hlk hQ dX4_sweep_32 (Or.inl ⟨by simp [c4, c11], rfl, rfl⟩)
    · refine hv_iload_n h dX4_sweep_14 3 rfl rfl ?_
      refine hv_callp (ws' := (hmW xa xb xc xd xe xf xg xh tl g cI bi wh se pi (nI d) al tp bd)) (v := hx_b (hx_in ax 3)) h (hr_Si (n := 1) (rest := []) h (k_X4_isAxis l D cI cC (hmW xa xb xc xd xe xf xg xh tl g cI bi wh se pi (nI d) al tp bd) ax) w_methodLink_X4_59 w_static_X4_isAxis w_initialized_X4 w_code_X4_isAxis (by decide +kernel) rfl rfl rfl ⟨by decide, by decide⟩ rfl (Nat.le_of_ble_eq_true rfl) ⟨Nat.zero_le _, Nat.zero_le _⟩ dX4_sweep_15) ?_
      refine hv_bif_eq h 31 dX4_sweep_18 rfl (fun c18 => ?_) (fun c18 => ?_)
      · refine hv_iconst h ((-1)) dX4_sweep_31 (by decide) ?_
        exact hv_iret h hr hlk hQ dX4_sweep_32 (Or.inl ⟨by simp [c4, c11, c18], rfl, rfl⟩)
      · refine hv_iload h dX4_sweep_21 4 rfl ?_
        refine hv_bipush h (12) dX4_sweep_23 (by decide) ?_
        refine hv_callp (ws' := (hmW xa xb xc xd xe xf xg xh tl g cI bi wh se pi (nI d) al tp bd)) (v := hx_b (hx_in w0 12)) h (hr_Si (n := 2) (rest := []) h (k_X4_isIn l D cI cC (hmW xa xb xc xd xe xf xg xh tl g cI bi wh se pi (nI d) al tp bd) w0 12) w_methodLink_X4_22 w_static_X4_isIn w_initialized_X4 w_code_X4_isIn (by decide +kernel) rfl rfl rfl ⟨by decide, by decide⟩ rfl (Nat.le_of_ble_eq_true rfl) ⟨Nat.zero_le _, Nat.zero_le _⟩ dX4_sweep_25) ?_
        refine hv_bif_ne h 33 dX4_sweep_28 rfl (fun c28 => ?_) (fun c28 => ?_)
        · refine hv_iload h dX4_sweep_33 5 rfl ?_
          refine hv_bipush h (12) dX4_sweep_35 (by decide) ?_
          refine hv_callp (ws' := (hmW xa xb xc xd xe xf xg xh tl g cI bi wh se pi (nI d) al tp bd)) (v := hx_b (hx_in b0 12)) h (hr_Si (n := 2) (rest := []) h (k_X4_isIn l D cI cC (hmW xa xb xc xd xe xf xg xh tl g cI bi wh se pi (nI d) al tp bd) b0 12) w_methodLink_X4_22 w_static_X4_isIn w_initialized_X4 w_code_X4_isIn (by decide +kernel) rfl rfl rfl ⟨by decide, by decide⟩ rfl (Nat.le_of_ble_eq_true rfl) ⟨Nat.zero_le _, Nat.zero_le _⟩ dX4_sweep_37) ?_
          refine hv_bif_eq h 60 dX4_sweep_40 rfl (fun c40 => ?_) (fun c40 => ?_)
          · refine hv_bipush h ((-2)) dX4_sweep_60 (by decide) ?_
            exact hv_iret h hr hlk hQ dX4_sweep_62 (Or.inr (Or.inl ⟨by simp [c4, c11, c18, c28, c40], by simp [c4, c11, c18, c28, c40], rfl, rfl⟩))
          · refine hv_iload h dX4_sweep_43 6 rfl ?_
            refine hv_bipush h (12) dX4_sweep_45 (by decide) ?_
            refine hv_callp (ws' := (hmW xa xb xc xd xe xf xg xh tl g cI bi wh se pi (nI d) al tp bd)) (v := hx_b (hx_in b1 12)) h (hr_Si (n := 2) (rest := []) h (k_X4_isIn l D cI cC (hmW xa xb xc xd xe xf xg xh tl g cI bi wh se pi (nI d) al tp bd) b1 12) w_methodLink_X4_22 w_static_X4_isIn w_initialized_X4 w_code_X4_isIn (by decide +kernel) rfl rfl rfl ⟨by decide, by decide⟩ rfl (Nat.le_of_ble_eq_true rfl) ⟨Nat.zero_le _, Nat.zero_le _⟩ dX4_sweep_47) ?_
            refine hv_bif_eq h 60 dX4_sweep_50 rfl (fun c50 => ?_) (fun c50 => ?_)
            · refine hv_bipush h ((-2)) dX4_sweep_60 (by decide) ?_
              exact hv_iret h hr hlk hQ dX4_sweep_62 (Or.inr (Or.inl ⟨by simp [c4, c11, c18, c28, c40, c50], by simp [c4, c11, c18, c28, c40, c50], rfl, rfl⟩))
            · refine hv_iload h dX4_sweep_53 5 rfl ?_
              refine hv_iload h dX4_sweep_55 6 rfl ?_
              refine hv_icmp_le h 63 dX4_sweep_57 rfl (fun c57 => ?_) (fun c57 => ?_)
              · obtain ⟨i0, hi0, rfl⟩ := hx_in_nat (n := 6) (by decide) c4
                have hcli0 : (nI i0).toNatClampNeg = i0 := nI_clamp (by omega)
                obtain ⟨i1, hi1, rfl⟩ := hx_in_nat (n := 6) (by decide) c11
                have hcli1 : (nI i1).toNatClampNeg = i1 := nI_clamp (by omega)
                obtain ⟨p0, hp0, rfl⟩ := hx_in_nat (n := 12) (by decide) c40
                have hclp0 : (nI p0).toNatClampNeg = p0 := nI_clamp (by omega)
                obtain ⟨p1, hp1, rfl⟩ := hx_in_nat (n := 12) (by decide) c50
                have hclp1 : (nI p1).toNatClampNeg = p1 := nI_clamp (by omega)
                have hpq : p0 ≤ p1 := (nI_leI (by omega) (by omega)).mp c57
                refine hv_aload_n h dX4_sweep_63 0 rfl rfl ?_
                refine hv_callw (ws' := (hmW xa xb xc xd xe xf xg xh tl g cI (hy_clr bi) wh se pi (nI d) al tp bd)) h (hr_Vv (n := 0) (rest := []) h 8 rfl rfl (k_X4_clearDraft l D cI cC xa xb xc xd xe xf xg xh tl g bi wh se pi (nI d) al tp bd  ) w_methodLink_X4_49 w_instanceMethod_X4_clearDraft w_selects_X4_clearDraft w_initialized_X4 w_code_X4_clearDraft (by decide +kernel) rfl rfl rfl ⟨by decide, by decide⟩ rfl (Nat.le_of_ble_eq_true rfl) ⟨Nat.zero_le _, Nat.zero_le _⟩ dX4_sweep_64) ?_
                refine hv_iconst h (nI 0) dX4_sweep_67 (by decide) ?_
                refine hv_istore h [(7, .int (nI 0)), (0, .ref (g 8)), (1, .int (nI i0)), (2, .int (nI i1)), (3, .int ax), (4, .int w0), (5, .int (nI p0)), (6, .int (nI p1))] dX4_sweep_68 (by decide) rfl ?_
                have L70 : ∀ d70 u : Nat, u + d70 = 12 → ∀ (Fbi1 : Nat → Int32), Fbi1 = hx_it (fun u F => hx_it (fun v F => hy_swl i1 ax w0 u v (p1 + 1 - p0) p0 F) 12 F) u (hy_clr bi) → hsV Pg l En rX4_sweep Ss Mi Ar Be Me Co QQ 10 D vwCl AA Ss.heap 0 0 70 [(7, .int (nI u)), (0, .ref (g 8)), (1, .int (nI i0)), (2, .int (nI i1)), (3, .int ax), (4, .int w0), (5, .int (nI p0)), (6, .int (nI p1))] (hmW xa xb xc xd xe xf xg xh tl g cI Fbi1 wh se pi (nI d) al tp bd) [] := by
                  intro d70
                  induction d70 with
                  | zero =>
                    intro u kq70 Fbi1 e_Fbi1
                    obtain rfl : u = 12 := by omega
                    refine hv_iload h dX4_sweep_70 0 rfl ?_
                    refine hv_bipush h (nI 12) dX4_sweep_72 (by decide) ?_
                    refine hv_icmp_ge h 175 dX4_sweep_74 rfl (fun c74 => ?_) (fun hc => absurd (Int32.le_refl _) hc)
                    refine hv_aload_n h dX4_sweep_175 1 rfl rfl ?_
                    refine hv_iload_n h dX4_sweep_176 2 rfl rfl ?_
                    refine hv_callp (ws' := (hmW xa xb xc xd xe xf xg xh tl g cI ((hy_stp Fbi1 wh d i0).1) ((hy_stp Fbi1 wh d i0).2) se pi (nI (hq_d d + 1)) (nI (hq_d d + 1)) tp bd)) (v := hy_cnt (hy_stp Fbi1 wh d i0).1 i0) h (hr_Vi (n := 1) (rest := []) h 8 rfl rfl (k_X4_step l D cI cC xa xb xc xd xe xf xg xh tl g Fbi1 wh se pi d al tp bd i0 hi0 hd) w_methodLink_X4_56 w_instanceMethod_X4_step w_selects_X4_step w_initialized_X4 w_code_X4_step (by decide +kernel) rfl rfl rfl ⟨by decide, by decide⟩ rfl (Nat.le_of_ble_eq_true rfl) ⟨Nat.zero_le _, Nat.zero_le _⟩ dX4_sweep_177) ?_
                    exact hv_iret h hr hlk hQ dX4_sweep_180 (Or.inr (Or.inr ⟨i0, hi0, rfl, by simp [c4, c11, c18, c28, c40, c50, c57, hcli0, hcli1, hclp0, hclp1, c74], by simp [c4, c11, c18, c28, c40, c50, c57, hcli0, hcli1, hclp0, hclp1, c74], by rw [e_Fbi1]; simp only [hcli1, hclp0, hclp1]; first | done | rfl, by rw [e_Fbi1]; simp only [hcli1, hclp0, hclp1]; first | done | rfl⟩))
                  | succ d70 ih70 =>
                    intro u kq70 Fbi1 e_Fbi1
                    have hlt70 : u < 12 := by omega
                    refine hv_iload h dX4_sweep_70 0 rfl ?_
                    refine hv_bipush h (nI 12) dX4_sweep_72 (by decide) ?_
                    refine hv_icmp_ge h 175 dX4_sweep_74 rfl (fun hc => absurd hc (nI_ge hlt70 (by decide))) (fun c74 => ?_)
                    refine hv_iconst h (nI 0) dX4_sweep_77 (by decide) ?_
                    refine hv_istore h [(8, .int (nI 0)), (7, .int (nI u)), (0, .ref (g 8)), (1, .int (nI i0)), (2, .int (nI i1)), (3, .int ax), (4, .int w0), (5, .int (nI p0)), (6, .int (nI p1))] dX4_sweep_78 (by decide) rfl ?_
                    have L80 : ∀ d80 v : Nat, v + d80 = 12 → ∀ (Fbi2 : Nat → Int32), Fbi2 = hx_it (fun v F => hy_swl i1 ax w0 u v (p1 + 1 - p0) p0 F) v Fbi1 → hsV Pg l En rX4_sweep Ss Mi Ar Be Me Co QQ 10 D vwCl AA Ss.heap 0 0 80 [(8, .int (nI v)), (7, .int (nI u)), (0, .ref (g 8)), (1, .int (nI i0)), (2, .int (nI i1)), (3, .int ax), (4, .int w0), (5, .int (nI p0)), (6, .int (nI p1))] (hmW xa xb xc xd xe xf xg xh tl g cI Fbi2 wh se pi (nI d) al tp bd) [] := by
                      intro d80
                      induction d80 with
                      | zero =>
                        intro v kq80 Fbi2 e_Fbi2
                        obtain rfl : v = 12 := by omega
                        refine hv_iload h dX4_sweep_80 0 rfl ?_
                        refine hv_bipush h (nI 12) dX4_sweep_82 (by decide) ?_
                        refine hv_icmp_ge h 169 dX4_sweep_84 rfl (fun c84 => ?_) (fun hc => absurd (Int32.le_refl _) hc)
                        refine hv_iinc h (nI (u + 1)) [(7, .int (nI (u + 1))), (8, .int (nI 12)), (0, .ref (g 8)), (1, .int (nI i0)), (2, .int (nI i1)), (3, .int ax), (4, .int w0), (5, .int (nI p0)), (6, .int (nI p1))] dX4_sweep_169 1 rfl (hs_inc _) (by decide) rfl ?_
                        refine hv_goto h 70 dX4_sweep_172 rfl ?_
                        refine hs_pick (lv' := [(7, .int (nI (u + 1))), (0, .ref (g 8)), (1, .int (nI i0)), (2, .int (nI i1)), (3, .int ax), (4, .int w0), (5, .int (nI p0)), (6, .int (nI p1))]) [0, 2, 3, 4, 5, 6, 7, 8] rfl ?_
                        exact ih70 (u + 1) (by omega) _ (by rw [hx_it_s, ← e_Fbi1]; try first | assumption | with_reducible rfl | (simp [c4, c11, c18, c28, c40, c50, c57, hcli0, hcli1, hclp0, hclp1, c74, c84]; done))
                      | succ d80 ih80 =>
                        intro v kq80 Fbi2 e_Fbi2
                        have hlt80 : v < 12 := by omega
                        refine hv_iload h dX4_sweep_80 0 rfl ?_
                        refine hv_bipush h (nI 12) dX4_sweep_82 (by decide) ?_
                        refine hv_icmp_ge h 169 dX4_sweep_84 rfl (fun hc => absurd hc (nI_ge hlt80 (by decide))) (fun c84 => ?_)
                        refine hv_iload h dX4_sweep_87 7 rfl ?_
                        refine hv_istore h [(9, .int (nI p0)), (8, .int (nI v)), (7, .int (nI u)), (0, .ref (g 8)), (1, .int (nI i0)), (2, .int (nI i1)), (3, .int ax), (4, .int w0), (5, .int (nI p0)), (6, .int (nI p1))] dX4_sweep_89 (by decide) rfl ?_
                        have L91 : ∀ dd c : Nat, c + dd = p1 + 1 → p0 ≤ c → ∀ (F3 : Nat → Int32), hy_swl i1 ax w0 u v dd c F3 = hy_swl i1 ax w0 u v (p1 + 1 - p0) p0 Fbi2 → hsV Pg l En rX4_sweep Ss Mi Ar Be Me Co QQ 10 D vwCl AA Ss.heap 0 0 91 [(9, .int (nI c)), (8, .int (nI v)), (7, .int (nI u)), (0, .ref (g 8)), (1, .int (nI i0)), (2, .int (nI i1)), (3, .int ax), (4, .int w0), (5, .int (nI p0)), (6, .int (nI p1))] (hmW xa xb xc xd xe xf xg xh tl g cI F3 wh se pi (nI d) al tp bd) [] := by
                          intro dd
                          induction dd with
                          | zero =>
                            intro c kq91 hpc F3 gF
                            obtain rfl : c = p1 + 1 := by omega
                            refine hv_iload h dX4_sweep_91 0 rfl ?_
                            refine hv_iload h dX4_sweep_93 9 rfl ?_
                            refine hv_icmp_gt h 163 dX4_sweep_95 rfl (fun c95 => ?_) (fun hc => absurd (nI_lt (by omega) (by omega)) hc)
                            have gX : F3 = hy_swl i1 ax w0 u v (p1 + 1 - p0) p0 Fbi2 := gF
                            refine hv_iinc h (nI (v + 1)) [(8, .int (nI (v + 1))), (9, .int (nI (p1 + 1))), (7, .int (nI u)), (0, .ref (g 8)), (1, .int (nI i0)), (2, .int (nI i1)), (3, .int ax), (4, .int w0), (5, .int (nI p0)), (6, .int (nI p1))] dX4_sweep_163 1 rfl (hs_inc _) (by decide) rfl ?_
                            refine hv_goto h 80 dX4_sweep_166 rfl ?_
                            refine hs_pick (lv' := [(8, .int (nI (v + 1))), (7, .int (nI u)), (0, .ref (g 8)), (1, .int (nI i0)), (2, .int (nI i1)), (3, .int ax), (4, .int w0), (5, .int (nI p0)), (6, .int (nI p1))]) [0, 2, 3, 4, 5, 6, 7, 8, 9] rfl ?_
                            exact ih80 (v + 1) (by omega) _ (by rw [hx_it_s, ← e_Fbi2]; exact gX)
                          | succ dd ih91 =>
                            intro c kq91 hpc F3 gF
                            have hltc : c ≤ p1 := by omega
                            refine hv_iload h dX4_sweep_91 0 rfl ?_
                            refine hv_iload h dX4_sweep_93 9 rfl ?_
                            refine hv_icmp_gt h 163 dX4_sweep_95 rfl (fun hc => absurd hc (nI_nlt hltc (by omega))) (fun c95 => ?_)
                            refine hv_aload_n h dX4_sweep_98 3 rfl rfl ?_
                            refine hv_iload_n h dX4_sweep_99 5 rfl rfl ?_
                            refine hv_iload_n h dX4_sweep_100 6 rfl rfl ?_
                            refine hv_iload h dX4_sweep_101 7 rfl ?_
                            refine hv_iload h dX4_sweep_103 2 rfl ?_
                            refine hv_iload h dX4_sweep_105 1 rfl ?_
                            refine hv_callp (ws' := (hmW xa xb xc xd xe xf xg xh tl g cI F3 wh se pi (nI d) al tp bd)) (v := hx_b (hy_hb F3 i1 ax w0 (nI u) (nI v))) h (hr_Vi (n := 5) (rest := []) h 8 rfl rfl (k_X4_hasBy l D cI cC xa xb xc xd xe xf xg xh tl g F3 wh se pi (nI d) al tp bd i1 ax w0 (nI u) (nI v) (by omega)) w_methodLink_X4_66 w_instanceMethod_X4_hasBy w_selects_X4_hasBy w_initialized_X4 w_code_X4_hasBy (by decide +kernel) rfl rfl rfl ⟨by decide, by decide⟩ rfl (Nat.le_of_ble_eq_true rfl) ⟨Nat.zero_le _, Nat.zero_le _⟩ dX4_sweep_107) ?_
                            refine hv_bif_eq h 163 dX4_sweep_110 rfl (fun c110 => ?_) (fun c110 => ?_)
                            · have gX : F3 = hy_swl i1 ax w0 u v (p1 + 1 - p0) p0 Fbi2 := by rw [← gF, hy_swl, c110]; rfl
                              refine hv_iinc h (nI (v + 1)) [(8, .int (nI (v + 1))), (9, .int (nI c)), (7, .int (nI u)), (0, .ref (g 8)), (1, .int (nI i0)), (2, .int (nI i1)), (3, .int ax), (4, .int w0), (5, .int (nI p0)), (6, .int (nI p1))] dX4_sweep_163 1 rfl (hs_inc _) (by decide) rfl ?_
                              refine hv_goto h 80 dX4_sweep_166 rfl ?_
                              refine hs_pick (lv' := [(8, .int (nI (v + 1))), (7, .int (nI u)), (0, .ref (g 8)), (1, .int (nI i0)), (2, .int (nI i1)), (3, .int ax), (4, .int w0), (5, .int (nI p0)), (6, .int (nI p1))]) [0, 2, 3, 4, 5, 6, 7, 8, 9] rfl ?_
                              exact ih80 (v + 1) (by omega) _ (by rw [hx_it_s, ← e_Fbi2]; exact gX)
                            · refine hv_iload_n h dX4_sweep_113 6 rfl rfl ?_
                              refine hv_if_ne h 127 dX4_sweep_114 rfl (fun c114 => ?_) (fun c114 => ?_)
                              · refine hv_iload_n h dX4_sweep_127 6 rfl rfl ?_
                                refine hv_iconst h (1) dX4_sweep_128 (by decide) ?_
                                refine hv_icmp_ne h 142 dX4_sweep_129 rfl (fun c129 => ?_) (fun c129 => ?_)
                                · refine hv_iload_n h dX4_sweep_142 6 rfl rfl ?_
                                  refine hv_iconst h (2) dX4_sweep_143 (by decide) ?_
                                  refine hv_icmp_ne h 157 dX4_sweep_144 rfl (fun c144 => ?_) (fun c144 => ?_)
                                  · refine hv_iinc h (nI (c + 1)) [(9, .int (nI (c + 1))), (8, .int (nI v)), (7, .int (nI u)), (0, .ref (g 8)), (1, .int (nI i0)), (2, .int (nI i1)), (3, .int ax), (4, .int w0), (5, .int (nI p0)), (6, .int (nI p1))] dX4_sweep_157 0 rfl (hs_inc _) (by decide) rfl ?_
                                    refine hv_goto h 91 dX4_sweep_160 rfl ?_
                                    exact ih91 (c + 1) (by omega) (by omega) _ (by rw [← gF, hy_swl, if_pos c110]; unfold hy_swp; rw [if_neg c114, if_neg c129, if_neg c144])
                                  · refine hv_aload_n h dX4_sweep_147 3 rfl rfl ?_
                                    refine hv_iload h dX4_sweep_148 2 rfl ?_
                                    refine hv_iload h dX4_sweep_150 1 rfl ?_
                                    refine hv_iload h dX4_sweep_152 0 rfl ?_
                                    refine hv_callw (ws' := (hmW xa xb xc xd xe xf xg xh tl g cI (hy_put F3 u v (nI c)) wh se pi (nI d) al tp bd)) h (hr_Vv (n := 3) (rest := []) h 8 rfl rfl (k_X4_put l D cI cC xa xb xc xd xe xf xg xh tl g F3 wh se pi (nI d) al tp bd u v (nI c) (by omega) (by omega)) w_methodLink_X4_52 w_instanceMethod_X4_put w_selects_X4_put w_initialized_X4 w_code_X4_put (by decide +kernel) rfl rfl rfl ⟨by decide, by decide⟩ rfl (Nat.le_of_ble_eq_true rfl) ⟨Nat.zero_le _, Nat.zero_le _⟩ dX4_sweep_154) ?_
                                    refine hv_iinc h (nI (c + 1)) [(9, .int (nI (c + 1))), (8, .int (nI v)), (7, .int (nI u)), (0, .ref (g 8)), (1, .int (nI i0)), (2, .int (nI i1)), (3, .int ax), (4, .int w0), (5, .int (nI p0)), (6, .int (nI p1))] dX4_sweep_157 0 rfl (hs_inc _) (by decide) rfl ?_
                                    refine hv_goto h 91 dX4_sweep_160 rfl ?_
                                    exact ih91 (c + 1) (by omega) (by omega) _ (by rw [← gF, hy_swl, if_pos c110]; unfold hy_swp; rw [if_neg c114, if_neg c129, if_pos c144])
                                · refine hv_aload_n h dX4_sweep_132 3 rfl rfl ?_
                                  refine hv_iload h dX4_sweep_133 2 rfl ?_
                                  refine hv_iload h dX4_sweep_135 0 rfl ?_
                                  refine hv_iload h dX4_sweep_137 1 rfl ?_
                                  refine hv_callw (ws' := (hmW xa xb xc xd xe xf xg xh tl g cI (hy_put F3 u c (nI v)) wh se pi (nI d) al tp bd)) h (hr_Vv (n := 3) (rest := []) h 8 rfl rfl (k_X4_put l D cI cC xa xb xc xd xe xf xg xh tl g F3 wh se pi (nI d) al tp bd u c (nI v) (by omega) (by omega)) w_methodLink_X4_52 w_instanceMethod_X4_put w_selects_X4_put w_initialized_X4 w_code_X4_put (by decide +kernel) rfl rfl rfl ⟨by decide, by decide⟩ rfl (Nat.le_of_ble_eq_true rfl) ⟨Nat.zero_le _, Nat.zero_le _⟩ dX4_sweep_139) ?_
                                  refine hv_iload_n h dX4_sweep_142 6 rfl rfl ?_
                                  refine hv_iconst h (2) dX4_sweep_143 (by decide) ?_
                                  refine hv_icmp_ne h 157 dX4_sweep_144 rfl (fun c144 => ?_) (fun c144 => ?_)
                                  · refine hv_iinc h (nI (c + 1)) [(9, .int (nI (c + 1))), (8, .int (nI v)), (7, .int (nI u)), (0, .ref (g 8)), (1, .int (nI i0)), (2, .int (nI i1)), (3, .int ax), (4, .int w0), (5, .int (nI p0)), (6, .int (nI p1))] dX4_sweep_157 0 rfl (hs_inc _) (by decide) rfl ?_
                                    refine hv_goto h 91 dX4_sweep_160 rfl ?_
                                    exact ih91 (c + 1) (by omega) (by omega) _ (by rw [← gF, hy_swl, if_pos c110]; unfold hy_swp; rw [if_neg c114, if_pos c129, if_neg c144])
                                  · refine hv_aload_n h dX4_sweep_147 3 rfl rfl ?_
                                    refine hv_iload h dX4_sweep_148 2 rfl ?_
                                    refine hv_iload h dX4_sweep_150 1 rfl ?_
                                    refine hv_iload h dX4_sweep_152 0 rfl ?_
                                    refine hv_callw (ws' := (hmW xa xb xc xd xe xf xg xh tl g cI (hy_put (hy_put F3 u c (nI v)) u v (nI c)) wh se pi (nI d) al tp bd)) h (hr_Vv (n := 3) (rest := []) h 8 rfl rfl (k_X4_put l D cI cC xa xb xc xd xe xf xg xh tl g (hy_put F3 u c (nI v)) wh se pi (nI d) al tp bd u v (nI c) (by omega) (by omega)) w_methodLink_X4_52 w_instanceMethod_X4_put w_selects_X4_put w_initialized_X4 w_code_X4_put (by decide +kernel) rfl rfl rfl ⟨by decide, by decide⟩ rfl (Nat.le_of_ble_eq_true rfl) ⟨Nat.zero_le _, Nat.zero_le _⟩ dX4_sweep_154) ?_
                                    refine hv_iinc h (nI (c + 1)) [(9, .int (nI (c + 1))), (8, .int (nI v)), (7, .int (nI u)), (0, .ref (g 8)), (1, .int (nI i0)), (2, .int (nI i1)), (3, .int ax), (4, .int w0), (5, .int (nI p0)), (6, .int (nI p1))] dX4_sweep_157 0 rfl (hs_inc _) (by decide) rfl ?_
                                    refine hv_goto h 91 dX4_sweep_160 rfl ?_
                                    exact ih91 (c + 1) (by omega) (by omega) _ (by rw [← gF, hy_swl, if_pos c110]; unfold hy_swp; rw [if_neg c114, if_pos c129, if_pos c144])
                              · refine hv_aload_n h dX4_sweep_117 3 rfl rfl ?_
                                refine hv_iload h dX4_sweep_118 0 rfl ?_
                                refine hv_iload h dX4_sweep_120 2 rfl ?_
                                refine hv_iload h dX4_sweep_122 1 rfl ?_
                                refine hv_callw (ws' := (hmW xa xb xc xd xe xf xg xh tl g cI (hy_put F3 c u (nI v)) wh se pi (nI d) al tp bd)) h (hr_Vv (n := 3) (rest := []) h 8 rfl rfl (k_X4_put l D cI cC xa xb xc xd xe xf xg xh tl g F3 wh se pi (nI d) al tp bd c u (nI v) (by omega) (by omega)) w_methodLink_X4_52 w_instanceMethod_X4_put w_selects_X4_put w_initialized_X4 w_code_X4_put (by decide +kernel) rfl rfl rfl ⟨by decide, by decide⟩ rfl (Nat.le_of_ble_eq_true rfl) ⟨Nat.zero_le _, Nat.zero_le _⟩ dX4_sweep_124) ?_
                                refine hv_iload_n h dX4_sweep_127 6 rfl rfl ?_
                                refine hv_iconst h (1) dX4_sweep_128 (by decide) ?_
                                refine hv_icmp_ne h 142 dX4_sweep_129 rfl (fun c129 => ?_) (fun c129 => ?_)
                                · refine hv_iload_n h dX4_sweep_142 6 rfl rfl ?_
                                  refine hv_iconst h (2) dX4_sweep_143 (by decide) ?_
                                  refine hv_icmp_ne h 157 dX4_sweep_144 rfl (fun c144 => ?_) (fun c144 => ?_)
                                  · refine hv_iinc h (nI (c + 1)) [(9, .int (nI (c + 1))), (8, .int (nI v)), (7, .int (nI u)), (0, .ref (g 8)), (1, .int (nI i0)), (2, .int (nI i1)), (3, .int ax), (4, .int w0), (5, .int (nI p0)), (6, .int (nI p1))] dX4_sweep_157 0 rfl (hs_inc _) (by decide) rfl ?_
                                    refine hv_goto h 91 dX4_sweep_160 rfl ?_
                                    exact ih91 (c + 1) (by omega) (by omega) _ (by rw [← gF, hy_swl, if_pos c110]; unfold hy_swp; rw [if_pos c114, if_neg c129, if_neg c144])
                                  · refine hv_aload_n h dX4_sweep_147 3 rfl rfl ?_
                                    refine hv_iload h dX4_sweep_148 2 rfl ?_
                                    refine hv_iload h dX4_sweep_150 1 rfl ?_
                                    refine hv_iload h dX4_sweep_152 0 rfl ?_
                                    refine hv_callw (ws' := (hmW xa xb xc xd xe xf xg xh tl g cI (hy_put (hy_put F3 c u (nI v)) u v (nI c)) wh se pi (nI d) al tp bd)) h (hr_Vv (n := 3) (rest := []) h 8 rfl rfl (k_X4_put l D cI cC xa xb xc xd xe xf xg xh tl g (hy_put F3 c u (nI v)) wh se pi (nI d) al tp bd u v (nI c) (by omega) (by omega)) w_methodLink_X4_52 w_instanceMethod_X4_put w_selects_X4_put w_initialized_X4 w_code_X4_put (by decide +kernel) rfl rfl rfl ⟨by decide, by decide⟩ rfl (Nat.le_of_ble_eq_true rfl) ⟨Nat.zero_le _, Nat.zero_le _⟩ dX4_sweep_154) ?_
                                    refine hv_iinc h (nI (c + 1)) [(9, .int (nI (c + 1))), (8, .int (nI v)), (7, .int (nI u)), (0, .ref (g 8)), (1, .int (nI i0)), (2, .int (nI i1)), (3, .int ax), (4, .int w0), (5, .int (nI p0)), (6, .int (nI p1))] dX4_sweep_157 0 rfl (hs_inc _) (by decide) rfl ?_
                                    refine hv_goto h 91 dX4_sweep_160 rfl ?_
                                    exact ih91 (c + 1) (by omega) (by omega) _ (by rw [← gF, hy_swl, if_pos c110]; unfold hy_swp; rw [if_pos c114, if_neg c129, if_pos c144])
                                · refine hv_aload_n h dX4_sweep_132 3 rfl rfl ?_
                                  refine hv_iload h dX4_sweep_133 2 rfl ?_
                                  refine hv_iload h dX4_sweep_135 0 rfl ?_
                                  refine hv_iload h dX4_sweep_137 1 rfl ?_
                                  refine hv_callw (ws' := (hmW xa xb xc xd xe xf xg xh tl g cI (hy_put (hy_put F3 c u (nI v)) u c (nI v)) wh se pi (nI d) al tp bd)) h (hr_Vv (n := 3) (rest := []) h 8 rfl rfl (k_X4_put l D cI cC xa xb xc xd xe xf xg xh tl g (hy_put F3 c u (nI v)) wh se pi (nI d) al tp bd u c (nI v) (by omega) (by omega)) w_methodLink_X4_52 w_instanceMethod_X4_put w_selects_X4_put w_initialized_X4 w_code_X4_put (by decide +kernel) rfl rfl rfl ⟨by decide, by decide⟩ rfl (Nat.le_of_ble_eq_true rfl) ⟨Nat.zero_le _, Nat.zero_le _⟩ dX4_sweep_139) ?_
                                  refine hv_iload_n h dX4_sweep_142 6 rfl rfl ?_
                                  refine hv_iconst h (2) dX4_sweep_143 (by decide) ?_
                                  refine hv_icmp_ne h 157 dX4_sweep_144 rfl (fun c144 => ?_) (fun c144 => ?_)
                                  · refine hv_iinc h (nI (c + 1)) [(9, .int (nI (c + 1))), (8, .int (nI v)), (7, .int (nI u)), (0, .ref (g 8)), (1, .int (nI i0)), (2, .int (nI i1)), (3, .int ax), (4, .int w0), (5, .int (nI p0)), (6, .int (nI p1))] dX4_sweep_157 0 rfl (hs_inc _) (by decide) rfl ?_
                                    refine hv_goto h 91 dX4_sweep_160 rfl ?_
                                    exact ih91 (c + 1) (by omega) (by omega) _ (by rw [← gF, hy_swl, if_pos c110]; unfold hy_swp; rw [if_pos c114, if_pos c129, if_neg c144])
                                  · refine hv_aload_n h dX4_sweep_147 3 rfl rfl ?_
                                    refine hv_iload h dX4_sweep_148 2 rfl ?_
                                    refine hv_iload h dX4_sweep_150 1 rfl ?_
                                    refine hv_iload h dX4_sweep_152 0 rfl ?_
                                    refine hv_callw (ws' := (hmW xa xb xc xd xe xf xg xh tl g cI (hy_put (hy_put (hy_put F3 c u (nI v)) u c (nI v)) u v (nI c)) wh se pi (nI d) al tp bd)) h (hr_Vv (n := 3) (rest := []) h 8 rfl rfl (k_X4_put l D cI cC xa xb xc xd xe xf xg xh tl g (hy_put (hy_put F3 c u (nI v)) u c (nI v)) wh se pi (nI d) al tp bd u v (nI c) (by omega) (by omega)) w_methodLink_X4_52 w_instanceMethod_X4_put w_selects_X4_put w_initialized_X4 w_code_X4_put (by decide +kernel) rfl rfl rfl ⟨by decide, by decide⟩ rfl (Nat.le_of_ble_eq_true rfl) ⟨Nat.zero_le _, Nat.zero_le _⟩ dX4_sweep_154) ?_
                                    refine hv_iinc h (nI (c + 1)) [(9, .int (nI (c + 1))), (8, .int (nI v)), (7, .int (nI u)), (0, .ref (g 8)), (1, .int (nI i0)), (2, .int (nI i1)), (3, .int ax), (4, .int w0), (5, .int (nI p0)), (6, .int (nI p1))] dX4_sweep_157 0 rfl (hs_inc _) (by decide) rfl ?_
                                    refine hv_goto h 91 dX4_sweep_160 rfl ?_
                                    exact ih91 (c + 1) (by omega) (by omega) _ (by rw [← gF, hy_swl, if_pos c110]; unfold hy_swp; rw [if_pos c114, if_pos c129, if_pos c144])
                        exact L91 (p1 + 1 - p0) p0 (by omega) (by omega) _ rfl
                    exact L80 12 0 (by omega) _ rfl
                exact L70 12 0 (by omega) _ rfl
              · refine hv_bipush h ((-2)) dX4_sweep_60 (by decide) ?_
                exact hv_iret h hr hlk hQ dX4_sweep_62 (Or.inr (Or.inl ⟨by simp [c4, c11, c18, c28, c40, c50, c57], by simp [c4, c11, c18, c28, c40, c50, c57], rfl, rfl⟩))
        · refine hv_iconst h ((-1)) dX4_sweep_31 (by decide) ?_
          exact hv_iret h hr hlk hQ dX4_sweep_32 (Or.inl ⟨by simp [c4, c11, c18, c28], rfl, rfl⟩)
