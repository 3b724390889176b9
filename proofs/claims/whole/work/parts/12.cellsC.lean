abbrev rX1_becomeView : Room := { frames := 3, cells := 0, slots := 0, locals := 68 }
set_option maxHeartbeats 1000000 in
set_option maxRecDepth 100000 in
theorem k_X1_becomeView (l : Launch) (D : va_G) (cI cC : ClassId) (ws : va_W) (q qa k a : Nat) (f : Nat → Int32) (hk : ws[q]? = some (k, .inr (hsCi, [.ref a]))) (ha : ws[qa]? = some (a, .inl (cI, 144, .inl f))) (n0 : qa ≠ q) (q2 q2a k2 a2 : Nat) (f2 : Nat → Int32) (hk2 : ws[q2]? = some (k2, .inr (hsCi, [.ref a2]))) (ha2 : ws[q2a]? = some (a2, .inl (cI, 144, .inl f2))) (n2 : qa ≠ q2) (n2a : qa ≠ q2a) (ax : Int32) : hsN l yX1_becomeView wsX1_becomeView rX1_becomeView D vwCl (hsT cI cC) [.ref k, .ref k2, .int ax] ws (fun w => w = (ws.set qa (a, .inl (cI, 144, .inl (hx_fill (hx_vw f2 ax) f))))) := by
  refine hsN.enter (cc := cX1_becomeView) (maxL := 5) (ret := none) (by decide) rfl (Nat.le_of_ble_eq_true rfl) ?_
  intro Pg En Ss Mi Ar Be Me Co AA QQ hQ h hr hlk
  refine hs_lv (lv' := [(0, .ref k), (1, .ref k2), (2, .int ax)]) rfl ?_
  refine hv_iconst h (nI 0) dX1_becomeView_0 (by decide) ?_
  refine hv_istore_n h [(3, .int (nI 0)), (0, .ref k), (1, .ref k2), (2, .int ax)] dX1_becomeView_1 rfl (by decide) rfl ?_
  refine hs_ws (hs_self ha).symm ?_
  have L2 : ∀ d2 x : Nat, x + d2 = 12 → ∀ (F1 : Nat → Int32), F1 = hx_it (fun x F => hx_it (fun y F => upd F (x * 12 + y) ((hx_vw f2 ax) x y)) 12 F) x f → hsV Pg l En rX1_becomeView Ss Mi Ar Be Me Co QQ 5 D vwCl AA Ss.heap 0 0 2 [(3, .int (nI x)), (0, .ref k), (1, .ref k2), (2, .int ax)] (ws.set qa (a, .inl (cI, 144, .inl F1))) [] := by
    intro d2
    induction d2 with
    | zero =>
      intro x kq2 F1 e_F1
      obtain rfl : x = 12 := by omega
      refine hv_iload_n h dX1_becomeView_2 0 rfl rfl ?_
      refine hv_bipush h (nI 12) dX1_becomeView_3 (by decide) ?_
      refine hv_icmp_ge h 50 dX1_becomeView_5 rfl (fun c5 => ?_) (fun hc => absurd (Int32.le_refl _) hc)
      exact hv_vret h hr hlk hQ dX1_becomeView_50 (by rw [e_F1]; rfl)
    | succ d2 ih2 =>
      intro x kq2 F1 e_F1
      have hlt2 : x < 12 := by omega
      refine hv_iload_n h dX1_becomeView_2 0 rfl rfl ?_
      refine hv_bipush h (nI 12) dX1_becomeView_3 (by decide) ?_
      refine hv_icmp_ge h 50 dX1_becomeView_5 rfl (fun hc => absurd hc (nI_ge hlt2 (by decide))) (fun c5 => ?_)
      refine hv_iconst h (nI 0) dX1_becomeView_8 (by decide) ?_
      refine hv_istore h [(4, .int (nI 0)), (3, .int (nI x)), (0, .ref k), (1, .ref k2), (2, .int ax)] dX1_becomeView_9 (by decide) rfl ?_
      have L11 : ∀ d11 y : Nat, y + d11 = 12 → ∀ (F2 : Nat → Int32), F2 = hx_it (fun y F => upd F (x * 12 + y) ((hx_vw f2 ax) x y)) y F1 → hsV Pg l En rX1_becomeView Ss Mi Ar Be Me Co QQ 5 D vwCl AA Ss.heap 0 0 11 [(4, .int (nI y)), (3, .int (nI x)), (0, .ref k), (1, .ref k2), (2, .int ax)] (ws.set qa (a, .inl (cI, 144, .inl F2))) [] := by
        intro d11
        induction d11 with
        | zero =>
          intro y kq11 F2 e_F2
          obtain rfl : y = 12 := by omega
          refine hv_iload h dX1_becomeView_11 0 rfl ?_
          refine hv_bipush h (nI 12) dX1_becomeView_13 (by decide) ?_
          refine hv_icmp_ge h 44 dX1_becomeView_15 rfl (fun c15 => ?_) (fun hc => absurd (Int32.le_refl _) hc)
          refine hv_iinc h (nI (x + 1)) [(3, .int (nI (x + 1))), (4, .int (nI 12)), (0, .ref k), (1, .ref k2), (2, .int ax)] dX1_becomeView_44 1 rfl (hs_inc _) (by decide) rfl ?_
          refine hv_goto h 2 dX1_becomeView_47 rfl ?_
          refine hs_pick (lv' := [(3, .int (nI (x + 1))), (0, .ref k), (1, .ref k2), (2, .int ax)]) [0, 2, 3, 4] rfl ?_
          exact ih2 (x + 1) (by omega) _ (by rw [hx_it_s, ← e_F1]; try first | assumption | with_reducible rfl | (simp [c5, c15]; done))
        | succ d11 ih11 =>
          intro y kq11 F2 e_F2
          have hlt11 : y < 12 := by omega
          refine hv_iload h dX1_becomeView_11 0 rfl ?_
          refine hv_bipush h (nI 12) dX1_becomeView_13 (by decide) ?_
          refine hv_icmp_ge h 44 dX1_becomeView_15 rfl (fun hc => absurd hc (nI_ge hlt11 (by decide))) (fun c15 => ?_)
          refine hv_aload_n h dX1_becomeView_18 2 rfl rfl ?_
          refine hv_get (C := RX1) (T := TX1) (N := 1) h q (hs_oth n0 hk) rfl 0 (by decide) wu_X1 w_fieldLink_X1_9 (fun _ h9 => h9) rfl dX1_becomeView_19 ?_
          refine hv_iload_n h dX1_becomeView_22 1 rfl rfl ?_
          refine hv_bipush h (12) dX1_becomeView_23 (by decide) ?_
          refine hw_imul h (nI (x * 12)) dX1_becomeView_25 (pk_mul x 12) ?_
          refine hv_iload h dX1_becomeView_26 0 rfl ?_
          refine hw_iadd h (nI ((x * 12) + y)) dX1_becomeView_28 (nI_add (x * 12) y) ?_
          refine hv_aload_n h dX1_becomeView_29 3 rfl rfl ?_
          refine hv_iload_n h dX1_becomeView_30 4 rfl rfl ?_
          refine hv_iload_n h dX1_becomeView_31 1 rfl rfl ?_
          refine hv_iload h dX1_becomeView_32 0 rfl ?_
          refine hv_callp (ws' := (ws.set qa (a, .inl (cI, 144, .inl F2)))) (v := hx_al f2 ax (nI x) (nI y)) h (hr_Vi (n := 3) (rest := [.int (nI ((x * 12) + y)), .ref a]) h q2 (hs_oth n2 hk2) rfl (k_X1_columnAlong l D cI cC (ws.set qa (a, .inl (cI, 144, .inl F2))) q2 q2a k2 a2 f2 (hs_oth n2 hk2) (hs_oth n2a ha2) ax (nI x) (nI y)) w_methodLink_X1_23 w_instanceMethod_X1_columnAlong w_selects_X1_columnAlong w_initialized_X1 w_code_X1_columnAlong (by decide +kernel) rfl rfl rfl ⟨by decide, by decide⟩ rfl (Nat.le_of_ble_eq_true rfl) ⟨Nat.zero_le _, Nat.zero_le _⟩ dX1_becomeView_34) ?_
          refine hv_iast (ws' := (ws.set qa (a, .inl (cI, 144, .inl (upd F2 ((x * 12) + y) (hx_al f2 ax (nI x) (nI y))))))) h qa 0 (hs_got ha) rfl (vp_in_nI (by omega) (by decide)) dX1_becomeView_37 (by rw [nI_clamp (by omega), List.set_set]) ?_
          refine hv_iinc h (nI (y + 1)) [(4, .int (nI (y + 1))), (3, .int (nI x)), (0, .ref k), (1, .ref k2), (2, .int ax)] dX1_becomeView_38 0 rfl (hs_inc _) (by decide) rfl ?_
          refine hv_goto h 11 dX1_becomeView_41 rfl ?_
          exact ih11 (y + 1) (by omega) _ (by rw [hx_it_s, ← e_F2]; try first | assumption | with_reducible rfl | (simp [hx_vw, c5, c15]; done))
      exact L11 12 0 (by omega) _ rfl
  exact L2 12 0 (by omega) _ rfl
abbrev rX1_becomeBox : Room := { frames := 1, cells := 0, slots := 0, locals := 21 }
set_option maxHeartbeats 1000000 in
set_option maxRecDepth 100000 in
theorem k_X1_becomeBox (l : Launch) (D : va_G) (cI cC : ClassId) (ws : va_W) (q qa k a : Nat) (f : Nat → Int32) (hk : ws[q]? = some (k, .inr (hsCi, [.ref a]))) (ha : ws[qa]? = some (a, .inl (cI, 144, .inl f))) (n0 : qa ≠ q) (x0 : Int32) (y0 : Int32) (z0 : Int32) (x1 : Int32) (y1 : Int32) (z1 : Int32) : hsN l yX1_becomeBox wsX1_becomeBox rX1_becomeBox D vwCl (hsT cI cC) [.ref k, .int x0, .int y0, .int z0, .int x1, .int y1, .int z1] ws (fun w => w = (ws.set qa (a, .inl (cI, 144, .inl (hx_fill (hx_bx x0 y0 z0 x1 y1 z1) f))))) := by
  refine hsN.enter (cc := cX1_becomeBox) (maxL := 11) (ret := none) (by decide) rfl (Nat.le_of_ble_eq_true rfl) ?_
  intro Pg En Ss Mi Ar Be Me Co AA QQ hQ h hr hlk
  refine hs_lv (lv' := [(0, .ref k), (1, .int x0), (2, .int y0), (3, .int z0), (4, .int x1), (5, .int y1), (6, .int z1)]) rfl ?_
  refine hv_iload_n h dX1_becomeBox_0 3 rfl rfl ?_
  refine hv_iload h dX1_becomeBox_1 6 rfl ?_
  refine hv_callp (ws' := ws) (v := hx_span z0 z1) h (hr_Si (n := 2) (rest := []) h (k_X1_spanOf l D cI cC ws z0 z1) w_methodLink_X1_27 w_static_X1_spanOf w_initialized_X1 w_code_X1_spanOf (by decide +kernel) rfl rfl rfl ⟨by decide, by decide⟩ rfl (Nat.le_of_ble_eq_true rfl) ⟨Nat.zero_le _, Nat.zero_le _⟩ dX1_becomeBox_3) ?_
  refine hv_istore h [(7, .int (hx_span z0 z1)), (0, .ref k), (1, .int x0), (2, .int y0), (3, .int z0), (4, .int x1), (5, .int y1), (6, .int z1)] dX1_becomeBox_6 (by decide) rfl ?_
  refine hv_iconst h (nI 0) dX1_becomeBox_8 (by decide) ?_
  refine hv_istore h [(8, .int (nI 0)), (7, .int (hx_span z0 z1)), (0, .ref k), (1, .int x0), (2, .int y0), (3, .int z0), (4, .int x1), (5, .int y1), (6, .int z1)] dX1_becomeBox_9 (by decide) rfl ?_
  refine hs_ws (hs_self ha).symm ?_
  have L11 : ∀ d11 x : Nat, x + d11 = 12 → ∀ (F1 : Nat → Int32), F1 = hx_it (fun x F => hx_it (fun y F => upd F (x * 12 + y) ((hx_bx x0 y0 z0 x1 y1 z1) x y)) 12 F) x f → hsV Pg l En rX1_becomeBox Ss Mi Ar Be Me Co QQ 11 D vwCl AA Ss.heap 0 0 11 [(8, .int (nI x)), (7, .int (hx_span z0 z1)), (0, .ref k), (1, .int x0), (2, .int y0), (3, .int z0), (4, .int x1), (5, .int y1), (6, .int z1)] (ws.set qa (a, .inl (cI, 144, .inl F1))) [] := by
    intro d11
    induction d11 with
    | zero =>
      intro x kq11 F1 e_F1
      obtain rfl : x = 12 := by omega
      refine hv_iload h dX1_becomeBox_11 0 rfl ?_
      refine hv_bipush h (nI 12) dX1_becomeBox_13 (by decide) ?_
      refine hv_icmp_ge h 97 dX1_becomeBox_15 rfl (fun c15 => ?_) (fun hc => absurd (Int32.le_refl _) hc)
      exact hv_vret h hr hlk hQ dX1_becomeBox_97 (by rw [e_F1]; rfl)
    | succ d11 ih11 =>
      intro x kq11 F1 e_F1
      have hlt11 : x < 12 := by omega
      refine hv_iload h dX1_becomeBox_11 0 rfl ?_
      refine hv_bipush h (nI 12) dX1_becomeBox_13 (by decide) ?_
      refine hv_icmp_ge h 97 dX1_becomeBox_15 rfl (fun hc => absurd hc (nI_ge hlt11 (by decide))) (fun c15 => ?_)
      refine hv_iconst h (nI 0) dX1_becomeBox_18 (by decide) ?_
      refine hv_istore h [(9, .int (nI 0)), (8, .int (nI x)), (7, .int (hx_span z0 z1)), (0, .ref k), (1, .int x0), (2, .int y0), (3, .int z0), (4, .int x1), (5, .int y1), (6, .int z1)] dX1_becomeBox_19 (by decide) rfl ?_
      have L21 : ∀ d21 y : Nat, y + d21 = 12 → ∀ (F2 : Nat → Int32), F2 = hx_it (fun y F => upd F (x * 12 + y) ((hx_bx x0 y0 z0 x1 y1 z1) x y)) y F1 → hsV Pg l En rX1_becomeBox Ss Mi Ar Be Me Co QQ 11 D vwCl AA Ss.heap 0 0 21 [(9, .int (nI y)), (8, .int (nI x)), (7, .int (hx_span z0 z1)), (0, .ref k), (1, .int x0), (2, .int y0), (3, .int z0), (4, .int x1), (5, .int y1), (6, .int z1)] (ws.set qa (a, .inl (cI, 144, .inl F2))) [] := by
        intro d21
        induction d21 with
        | zero =>
          intro y kq21 F2 e_F2
          obtain rfl : y = 12 := by omega
          refine hv_iload h dX1_becomeBox_21 0 rfl ?_
          refine hv_bipush h (nI 12) dX1_becomeBox_23 (by decide) ?_
          refine hv_icmp_ge h 91 dX1_becomeBox_25 rfl (fun c25 => ?_) (fun hc => absurd (Int32.le_refl _) hc)
          refine hv_iinc h (nI (x + 1)) [(8, .int (nI (x + 1))), (9, .int (nI 12)), (7, .int (hx_span z0 z1)), (0, .ref k), (1, .int x0), (2, .int y0), (3, .int z0), (4, .int x1), (5, .int y1), (6, .int z1)] dX1_becomeBox_91 1 rfl (hs_inc _) (by decide) rfl ?_
          refine hv_goto h 11 dX1_becomeBox_94 rfl ?_
          refine hs_pick (lv' := [(8, .int (nI (x + 1))), (7, .int (hx_span z0 z1)), (0, .ref k), (1, .int x0), (2, .int y0), (3, .int z0), (4, .int x1), (5, .int y1), (6, .int z1)]) [0, 2, 3, 4, 5, 6, 7, 8, 9] rfl ?_
          exact ih11 (x + 1) (by omega) _ (by rw [hx_it_s, ← e_F1]; try first | assumption | with_reducible rfl | (simp [c15, c25]; done))
        | succ d21 ih21 =>
          intro y kq21 F2 e_F2
          have hlt21 : y < 12 := by omega
          refine hv_iload h dX1_becomeBox_21 0 rfl ?_
          refine hv_bipush h (nI 12) dX1_becomeBox_23 (by decide) ?_
          refine hv_icmp_ge h 91 dX1_becomeBox_25 rfl (fun hc => absurd hc (nI_ge hlt21 (by decide))) (fun c25 => ?_)
          refine hv_iload h dX1_becomeBox_28 1 rfl ?_
          refine hv_iload_n h dX1_becomeBox_30 4 rfl rfl ?_
          refine hv_icmp_lt h 58 dX1_becomeBox_31 rfl (fun c31 => ?_) (fun c31 => ?_)
          · refine hv_iconst h (0) dX1_becomeBox_58 (by decide) ?_
            refine hv_istore h [(10, .int 0), (9, .int (nI y)), (8, .int (nI x)), (7, .int (hx_span z0 z1)), (0, .ref k), (1, .int x0), (2, .int y0), (3, .int z0), (4, .int x1), (5, .int y1), (6, .int z1)] dX1_becomeBox_59 (by decide) rfl ?_
            refine hv_aload_n h dX1_becomeBox_61 4 rfl rfl ?_
            refine hv_get (C := RX1) (T := TX1) (N := 1) h q (hs_oth n0 hk) rfl 0 (by decide) wu_X1 w_fieldLink_X1_9 (fun _ h9 => h9) rfl dX1_becomeBox_62 ?_
            refine hv_iload h dX1_becomeBox_65 2 rfl ?_
            refine hv_bipush h (12) dX1_becomeBox_67 (by decide) ?_
            refine hw_imul h (nI (x * 12)) dX1_becomeBox_69 (pk_mul x 12) ?_
            refine hv_iload h dX1_becomeBox_70 1 rfl ?_
            refine hw_iadd h (nI ((x * 12) + y)) dX1_becomeBox_72 (nI_add (x * 12) y) ?_
            refine hv_iload h dX1_becomeBox_73 0 rfl ?_
            refine hv_if_eq h 83 dX1_becomeBox_75 rfl (fun c75 => ?_) (fun hc => absurd (by decide) hc)
            refine hv_iconst h (0) dX1_becomeBox_83 (by decide) ?_
            refine hv_iast (ws' := (ws.set qa (a, .inl (cI, 144, .inl (upd F2 ((x * 12) + y) 0))))) h qa 0 (hs_got ha) rfl (vp_in_nI (by omega) (by decide)) dX1_becomeBox_84 (by rw [nI_clamp (by omega), List.set_set]) ?_
            refine hv_iinc h (nI (y + 1)) [(9, .int (nI (y + 1))), (10, .int 0), (8, .int (nI x)), (7, .int (hx_span z0 z1)), (0, .ref k), (1, .int x0), (2, .int y0), (3, .int z0), (4, .int x1), (5, .int y1), (6, .int z1)] dX1_becomeBox_85 1 rfl (hs_inc _) (by decide) rfl ?_
            refine hv_goto h 21 dX1_becomeBox_88 rfl ?_
            refine hs_pick (lv' := [(9, .int (nI (y + 1))), (8, .int (nI x)), (7, .int (hx_span z0 z1)), (0, .ref k), (1, .int x0), (2, .int y0), (3, .int z0), (4, .int x1), (5, .int y1), (6, .int z1)]) [0, 2, 3, 4, 5, 6, 7, 8, 9, 10] rfl ?_
            exact ih21 (y + 1) (by omega) _ (by rw [hx_it_s, ← e_F2]; try first | assumption | with_reducible rfl | (simp [hx_bx, c15, c25, c31, c75]; done))
          · refine hv_iload h dX1_becomeBox_34 1 rfl ?_
            refine hv_iload h dX1_becomeBox_36 7 rfl ?_
            refine hv_icmp_gt h 58 dX1_becomeBox_38 rfl (fun c38 => ?_) (fun c38 => ?_)
            · refine hv_iconst h (0) dX1_becomeBox_58 (by decide) ?_
              refine hv_istore h [(10, .int 0), (9, .int (nI y)), (8, .int (nI x)), (7, .int (hx_span z0 z1)), (0, .ref k), (1, .int x0), (2, .int y0), (3, .int z0), (4, .int x1), (5, .int y1), (6, .int z1)] dX1_becomeBox_59 (by decide) rfl ?_
              refine hv_aload_n h dX1_becomeBox_61 4 rfl rfl ?_
              refine hv_get (C := RX1) (T := TX1) (N := 1) h q (hs_oth n0 hk) rfl 0 (by decide) wu_X1 w_fieldLink_X1_9 (fun _ h9 => h9) rfl dX1_becomeBox_62 ?_
              refine hv_iload h dX1_becomeBox_65 2 rfl ?_
              refine hv_bipush h (12) dX1_becomeBox_67 (by decide) ?_
              refine hw_imul h (nI (x * 12)) dX1_becomeBox_69 (pk_mul x 12) ?_
              refine hv_iload h dX1_becomeBox_70 1 rfl ?_
              refine hw_iadd h (nI ((x * 12) + y)) dX1_becomeBox_72 (nI_add (x * 12) y) ?_
              refine hv_iload h dX1_becomeBox_73 0 rfl ?_
              refine hv_if_eq h 83 dX1_becomeBox_75 rfl (fun c75 => ?_) (fun hc => absurd (by decide) hc)
              refine hv_iconst h (0) dX1_becomeBox_83 (by decide) ?_
              refine hv_iast (ws' := (ws.set qa (a, .inl (cI, 144, .inl (upd F2 ((x * 12) + y) 0))))) h qa 0 (hs_got ha) rfl (vp_in_nI (by omega) (by decide)) dX1_becomeBox_84 (by rw [nI_clamp (by omega), List.set_set]) ?_
              refine hv_iinc h (nI (y + 1)) [(9, .int (nI (y + 1))), (10, .int 0), (8, .int (nI x)), (7, .int (hx_span z0 z1)), (0, .ref k), (1, .int x0), (2, .int y0), (3, .int z0), (4, .int x1), (5, .int y1), (6, .int z1)] dX1_becomeBox_85 1 rfl (hs_inc _) (by decide) rfl ?_
              refine hv_goto h 21 dX1_becomeBox_88 rfl ?_
              refine hs_pick (lv' := [(9, .int (nI (y + 1))), (8, .int (nI x)), (7, .int (hx_span z0 z1)), (0, .ref k), (1, .int x0), (2, .int y0), (3, .int z0), (4, .int x1), (5, .int y1), (6, .int z1)]) [0, 2, 3, 4, 5, 6, 7, 8, 9, 10] rfl ?_
              exact ih21 (y + 1) (by omega) _ (by rw [hx_it_s, ← e_F2]; try first | assumption | with_reducible rfl | (simp [hx_bx, c15, c25, c31, c38, c75]; done))
            · refine hv_iload h dX1_becomeBox_41 0 rfl ?_
              refine hv_iload_n h dX1_becomeBox_43 5 rfl rfl ?_
              refine hv_icmp_lt h 58 dX1_becomeBox_44 rfl (fun c44 => ?_) (fun c44 => ?_)
              · refine hv_iconst h (0) dX1_becomeBox_58 (by decide) ?_
                refine hv_istore h [(10, .int 0), (9, .int (nI y)), (8, .int (nI x)), (7, .int (hx_span z0 z1)), (0, .ref k), (1, .int x0), (2, .int y0), (3, .int z0), (4, .int x1), (5, .int y1), (6, .int z1)] dX1_becomeBox_59 (by decide) rfl ?_
                refine hv_aload_n h dX1_becomeBox_61 4 rfl rfl ?_
                refine hv_get (C := RX1) (T := TX1) (N := 1) h q (hs_oth n0 hk) rfl 0 (by decide) wu_X1 w_fieldLink_X1_9 (fun _ h9 => h9) rfl dX1_becomeBox_62 ?_
                refine hv_iload h dX1_becomeBox_65 2 rfl ?_
                refine hv_bipush h (12) dX1_becomeBox_67 (by decide) ?_
                refine hw_imul h (nI (x * 12)) dX1_becomeBox_69 (pk_mul x 12) ?_
                refine hv_iload h dX1_becomeBox_70 1 rfl ?_
                refine hw_iadd h (nI ((x * 12) + y)) dX1_becomeBox_72 (nI_add (x * 12) y) ?_
                refine hv_iload h dX1_becomeBox_73 0 rfl ?_
                refine hv_if_eq h 83 dX1_becomeBox_75 rfl (fun c75 => ?_) (fun hc => absurd (by decide) hc)
                refine hv_iconst h (0) dX1_becomeBox_83 (by decide) ?_
                refine hv_iast (ws' := (ws.set qa (a, .inl (cI, 144, .inl (upd F2 ((x * 12) + y) 0))))) h qa 0 (hs_got ha) rfl (vp_in_nI (by omega) (by decide)) dX1_becomeBox_84 (by rw [nI_clamp (by omega), List.set_set]) ?_
                refine hv_iinc h (nI (y + 1)) [(9, .int (nI (y + 1))), (10, .int 0), (8, .int (nI x)), (7, .int (hx_span z0 z1)), (0, .ref k), (1, .int x0), (2, .int y0), (3, .int z0), (4, .int x1), (5, .int y1), (6, .int z1)] dX1_becomeBox_85 1 rfl (hs_inc _) (by decide) rfl ?_
                refine hv_goto h 21 dX1_becomeBox_88 rfl ?_
                refine hs_pick (lv' := [(9, .int (nI (y + 1))), (8, .int (nI x)), (7, .int (hx_span z0 z1)), (0, .ref k), (1, .int x0), (2, .int y0), (3, .int z0), (4, .int x1), (5, .int y1), (6, .int z1)]) [0, 2, 3, 4, 5, 6, 7, 8, 9, 10] rfl ?_
                exact ih21 (y + 1) (by omega) _ (by rw [hx_it_s, ← e_F2]; try first | assumption | with_reducible rfl | (simp [hx_bx, c15, c25, c31, c38, c44, c75]; done))
              · refine hv_iload h dX1_becomeBox_47 0 rfl ?_
                refine hv_iload h dX1_becomeBox_49 8 rfl ?_
                refine hv_icmp_gt h 58 dX1_becomeBox_51 rfl (fun c51 => ?_) (fun c51 => ?_)
                · refine hv_iconst h (0) dX1_becomeBox_58 (by decide) ?_
                  refine hv_istore h [(10, .int 0), (9, .int (nI y)), (8, .int (nI x)), (7, .int (hx_span z0 z1)), (0, .ref k), (1, .int x0), (2, .int y0), (3, .int z0), (4, .int x1), (5, .int y1), (6, .int z1)] dX1_becomeBox_59 (by decide) rfl ?_
                  refine hv_aload_n h dX1_becomeBox_61 4 rfl rfl ?_
                  refine hv_get (C := RX1) (T := TX1) (N := 1) h q (hs_oth n0 hk) rfl 0 (by decide) wu_X1 w_fieldLink_X1_9 (fun _ h9 => h9) rfl dX1_becomeBox_62 ?_
                  refine hv_iload h dX1_becomeBox_65 2 rfl ?_
                  refine hv_bipush h (12) dX1_becomeBox_67 (by decide) ?_
                  refine hw_imul h (nI (x * 12)) dX1_becomeBox_69 (pk_mul x 12) ?_
                  refine hv_iload h dX1_becomeBox_70 1 rfl ?_
                  refine hw_iadd h (nI ((x * 12) + y)) dX1_becomeBox_72 (nI_add (x * 12) y) ?_
                  refine hv_iload h dX1_becomeBox_73 0 rfl ?_
                  refine hv_if_eq h 83 dX1_becomeBox_75 rfl (fun c75 => ?_) (fun hc => absurd (by decide) hc)
                  refine hv_iconst h (0) dX1_becomeBox_83 (by decide) ?_
                  refine hv_iast (ws' := (ws.set qa (a, .inl (cI, 144, .inl (upd F2 ((x * 12) + y) 0))))) h qa 0 (hs_got ha) rfl (vp_in_nI (by omega) (by decide)) dX1_becomeBox_84 (by rw [nI_clamp (by omega), List.set_set]) ?_
                  refine hv_iinc h (nI (y + 1)) [(9, .int (nI (y + 1))), (10, .int 0), (8, .int (nI x)), (7, .int (hx_span z0 z1)), (0, .ref k), (1, .int x0), (2, .int y0), (3, .int z0), (4, .int x1), (5, .int y1), (6, .int z1)] dX1_becomeBox_85 1 rfl (hs_inc _) (by decide) rfl ?_
                  refine hv_goto h 21 dX1_becomeBox_88 rfl ?_
                  refine hs_pick (lv' := [(9, .int (nI (y + 1))), (8, .int (nI x)), (7, .int (hx_span z0 z1)), (0, .ref k), (1, .int x0), (2, .int y0), (3, .int z0), (4, .int x1), (5, .int y1), (6, .int z1)]) [0, 2, 3, 4, 5, 6, 7, 8, 9, 10] rfl ?_
                  exact ih21 (y + 1) (by omega) _ (by rw [hx_it_s, ← e_F2]; try first | assumption | with_reducible rfl | (simp [hx_bx, c15, c25, c31, c38, c44, c51, c75]; done))
                · refine hv_iconst h (1) dX1_becomeBox_54 (by decide) ?_
                  refine hv_goto h 59 dX1_becomeBox_55 rfl ?_
                  refine hv_istore h [(10, .int 1), (9, .int (nI y)), (8, .int (nI x)), (7, .int (hx_span z0 z1)), (0, .ref k), (1, .int x0), (2, .int y0), (3, .int z0), (4, .int x1), (5, .int y1), (6, .int z1)] dX1_becomeBox_59 (by decide) rfl ?_
                  refine hv_aload_n h dX1_becomeBox_61 4 rfl rfl ?_
                  refine hv_get (C := RX1) (T := TX1) (N := 1) h q (hs_oth n0 hk) rfl 0 (by decide) wu_X1 w_fieldLink_X1_9 (fun _ h9 => h9) rfl dX1_becomeBox_62 ?_
                  refine hv_iload h dX1_becomeBox_65 2 rfl ?_
                  refine hv_bipush h (12) dX1_becomeBox_67 (by decide) ?_
                  refine hw_imul h (nI (x * 12)) dX1_becomeBox_69 (pk_mul x 12) ?_
                  refine hv_iload h dX1_becomeBox_70 1 rfl ?_
                  refine hw_iadd h (nI ((x * 12) + y)) dX1_becomeBox_72 (nI_add (x * 12) y) ?_
                  refine hv_iload h dX1_becomeBox_73 0 rfl ?_
                  refine hv_if_eq h 83 dX1_becomeBox_75 rfl (fun hc => absurd hc (by decide)) (fun c75 => ?_)
                  refine hv_iload h dX1_becomeBox_78 3 rfl ?_
                  refine hv_goto h 84 dX1_becomeBox_80 rfl ?_
                  refine hv_iast (ws' := (ws.set qa (a, .inl (cI, 144, .inl (upd F2 ((x * 12) + y) (hx_span z0 z1)))))) h qa 0 (hs_got ha) rfl (vp_in_nI (by omega) (by decide)) dX1_becomeBox_84 (by rw [nI_clamp (by omega), List.set_set]) ?_
                  refine hv_iinc h (nI (y + 1)) [(9, .int (nI (y + 1))), (10, .int 1), (8, .int (nI x)), (7, .int (hx_span z0 z1)), (0, .ref k), (1, .int x0), (2, .int y0), (3, .int z0), (4, .int x1), (5, .int y1), (6, .int z1)] dX1_becomeBox_85 1 rfl (hs_inc _) (by decide) rfl ?_
                  refine hv_goto h 21 dX1_becomeBox_88 rfl ?_
                  refine hs_pick (lv' := [(9, .int (nI (y + 1))), (8, .int (nI x)), (7, .int (hx_span z0 z1)), (0, .ref k), (1, .int x0), (2, .int y0), (3, .int z0), (4, .int x1), (5, .int y1), (6, .int z1)]) [0, 2, 3, 4, 5, 6, 7, 8, 9, 10] rfl ?_
                  exact ih21 (y + 1) (by omega) _ (by rw [hx_it_s, ← e_F2]; try first | assumption | with_reducible rfl | (simp [hx_bx, c15, c25, c31, c38, c44, c51, c75]; done))
      exact L21 12 0 (by omega) _ rfl
  exact L11 12 0 (by omega) _ rfl
abbrev rX1_becomeJoined : Room := { frames := 1, cells := 0, slots := 0, locals := 22 }
set_option maxHeartbeats 1000000 in
set_option maxRecDepth 100000 in
theorem k_X1_becomeJoined (l : Launch) (D : va_G) (cI cC : ClassId) (ws : va_W) (q qa k a : Nat) (f : Nat → Int32) (hk : ws[q]? = some (k, .inr (hsCi, [.ref a]))) (ha : ws[qa]? = some (a, .inl (cI, 144, .inl f))) (n0 : qa ≠ q) (q2 q2a k2 a2 : Nat) (f2 : Nat → Int32) (hk2 : ws[q2]? = some (k2, .inr (hsCi, [.ref a2]))) (ha2 : ws[q2a]? = some (a2, .inl (cI, 144, .inl f2))) (n2 : qa ≠ q2) (n2a : qa ≠ q2a) (q3 q3a k3 a3 : Nat) (f3 : Nat → Int32) (hk3 : ws[q3]? = some (k3, .inr (hsCi, [.ref a3]))) (ha3 : ws[q3a]? = some (a3, .inl (cI, 144, .inl f3))) (n3 : qa ≠ q3) (n3a : qa ≠ q3a) (w0 : Int32) : hsN l yX1_becomeJoined wsX1_becomeJoined rX1_becomeJoined D vwCl (hsT cI cC) [.ref k, .ref k2, .ref k3, .int w0] ws (fun w => w = (ws.set qa (a, .inl (cI, 144, .inl (hx_jf f2 f3 w0 f))))) := by
  refine hsN.enter (cc := cX1_becomeJoined) (maxL := 5) (ret := none) (by decide) rfl (Nat.le_of_ble_eq_true rfl) ?_
  intro Pg En Ss Mi Ar Be Me Co AA QQ hQ h hr hlk
  refine hs_lv (lv' := [(0, .ref k), (1, .ref k2), (2, .ref k3), (3, .int w0)]) rfl ?_
  refine hv_iconst h (nI 0) dX1_becomeJoined_0 (by decide) ?_
  refine hv_istore h [(4, .int (nI 0)), (0, .ref k), (1, .ref k2), (2, .ref k3), (3, .int w0)] dX1_becomeJoined_1 (by decide) rfl ?_
  refine hs_ws (hs_self ha).symm ?_
  have L3 : ∀ d3 i : Nat, i + d3 = 144 → ∀ (F1 : Nat → Int32), F1 = hx_it (fun i F => upd F i (hx_jn (f2 i) (f3 i) w0)) i f → hsV Pg l En rX1_becomeJoined Ss Mi Ar Be Me Co QQ 5 D vwCl AA Ss.heap 0 0 3 [(4, .int (nI i)), (0, .ref k), (1, .ref k2), (2, .ref k3), (3, .int w0)] (ws.set qa (a, .inl (cI, 144, .inl F1))) [] := by
    intro d3
    induction d3 with
    | zero =>
      intro i kq3 F1 e_F1
      obtain rfl : i = 144 := by omega
      refine hv_iload h dX1_becomeJoined_3 0 rfl ?_
      refine hv_sipush h (nI 144) dX1_becomeJoined_5 (by decide) ?_
      refine hv_icmp_ge h 42 dX1_becomeJoined_8 rfl (fun c8 => ?_) (fun hc => absurd (Int32.le_refl _) hc)
      exact hv_vret h hr hlk hQ dX1_becomeJoined_42 (by rw [e_F1]; rfl)
    | succ d3 ih3 =>
      intro i kq3 F1 e_F1
      have hlt3 : i < 144 := by omega
      refine hv_iload h dX1_becomeJoined_3 0 rfl ?_
      refine hv_sipush h (nI 144) dX1_becomeJoined_5 (by decide) ?_
      refine hv_icmp_ge h 42 dX1_becomeJoined_8 rfl (fun hc => absurd hc (nI_ge hlt3 (by decide))) (fun c8 => ?_)
      refine hv_aload_n h dX1_becomeJoined_11 1 rfl rfl ?_
      refine hv_get (C := RX1) (T := TX1) (N := 1) h q (hs_oth n0 hk) rfl 0 (by decide) wu_X1 w_fieldLink_X1_9 (fun _ h9 => h9) rfl dX1_becomeJoined_12 ?_
      refine hv_iload h dX1_becomeJoined_15 0 rfl ?_
      refine hv_aload_n h dX1_becomeJoined_17 2 rfl rfl ?_
      refine hv_get (C := RX1) (T := TX1) (N := 1) h q2 (hs_oth n2 hk2) rfl 0 (by decide) wu_X1 w_fieldLink_X1_9 (fun _ h9 => h9) rfl dX1_becomeJoined_18 ?_
      refine hv_iload h dX1_becomeJoined_21 0 rfl ?_
      refine hv_iald (v := f2 i) h q2a 0 (hs_oth n2a ha2) rfl (vp_in_nI (by omega) (by decide)) (by rw [nI_clamp (by omega)]) dX1_becomeJoined_23 ?_
      refine hv_aload_n h dX1_becomeJoined_24 3 rfl rfl ?_
      refine hv_get (C := RX1) (T := TX1) (N := 1) h q3 (hs_oth n3 hk3) rfl 0 (by decide) wu_X1 w_fieldLink_X1_9 (fun _ h9 => h9) rfl dX1_becomeJoined_25 ?_
      refine hv_iload h dX1_becomeJoined_28 0 rfl ?_
      refine hv_iald (v := f3 i) h q3a 0 (hs_oth n3a ha3) rfl (vp_in_nI (by omega) (by decide)) (by rw [nI_clamp (by omega)]) dX1_becomeJoined_30 ?_
      refine hv_iload_n h dX1_becomeJoined_31 4 rfl rfl ?_
      refine hv_callp (ws' := (ws.set qa (a, .inl (cI, 144, .inl F1)))) (v := hx_jn (f2 i) (f3 i) w0) h (hr_Si (n := 3) (rest := [.int (nI i), .ref a]) h (k_X1_joined l D cI cC (ws.set qa (a, .inl (cI, 144, .inl F1))) (f2 i) (f3 i) w0) w_methodLink_X1_30 w_static_X1_joined w_initialized_X1 w_code_X1_joined (by decide +kernel) rfl rfl rfl ⟨by decide, by decide⟩ rfl (Nat.le_of_ble_eq_true rfl) ⟨Nat.zero_le _, Nat.zero_le _⟩ dX1_becomeJoined_32) ?_
      refine hv_iast (ws' := (ws.set qa (a, .inl (cI, 144, .inl (upd F1 i (hx_jn (f2 i) (f3 i) w0)))))) h qa 0 (hs_got ha) rfl (vp_in_nI (by omega) (by decide)) dX1_becomeJoined_35 (by rw [nI_clamp (by omega), List.set_set]) ?_
      refine hv_iinc h (nI (i + 1)) [(4, .int (nI (i + 1))), (0, .ref k), (1, .ref k2), (2, .ref k3), (3, .int w0)] dX1_becomeJoined_36 0 rfl (hs_inc _) (by decide) rfl ?_
      refine hv_goto h 3 dX1_becomeJoined_39 rfl ?_
      exact ih3 (i + 1) (by omega) _ (by rw [hx_it_s, ← e_F1]; try first | assumption | with_reducible rfl | (simp [c8]; done))
  exact L3 144 0 (by omega) _ rfl
abbrev rX1_becomeTurned : Room := { frames := 4, cells := 0, slots := 0, locals := 91 }
set_option maxHeartbeats 1000000 in
set_option maxRecDepth 100000 in
theorem k_X1_becomeTurned (l : Launch) (D : va_G) (cI cC : ClassId) (ws : va_W) (q qa k a : Nat) (f : Nat → Int32) (hk : ws[q]? = some (k, .inr (hsCi, [.ref a]))) (ha : ws[qa]? = some (a, .inl (cI, 144, .inl f))) (n0 : qa ≠ q) (q2 q2a k2 a2 : Nat) (f2 : Nat → Int32) (hk2 : ws[q2]? = some (k2, .inr (hsCi, [.ref a2]))) (ha2 : ws[q2a]? = some (a2, .inl (cI, 144, .inl f2))) (n2 : qa ≠ q2) (n2a : qa ≠ q2a) (ax : Int32) : hsN l yX1_becomeTurned wsX1_becomeTurned rX1_becomeTurned D vwCl (hsT cI cC) [.ref k, .ref k2, .int ax] ws (fun w => w = (ws.set qa (a, .inl (cI, 144, .inl (hx_fill (fun x y => hx_tc f2 ax (nI x) (nI y)) f))))) := by
  refine hsN.enter (cc := cX1_becomeTurned) (maxL := 5) (ret := none) (by decide) rfl (Nat.le_of_ble_eq_true rfl) ?_
  intro Pg En Ss Mi Ar Be Me Co AA QQ hQ h hr hlk
  refine hs_lv (lv' := [(0, .ref k), (1, .ref k2), (2, .int ax)]) rfl ?_
  refine hv_iconst h (nI 0) dX1_becomeTurned_0 (by decide) ?_
  refine hv_istore_n h [(3, .int (nI 0)), (0, .ref k), (1, .ref k2), (2, .int ax)] dX1_becomeTurned_1 rfl (by decide) rfl ?_
  refine hs_ws (hs_self ha).symm ?_
  have L2 : ∀ d2 x : Nat, x + d2 = 12 → ∀ (F1 : Nat → Int32), F1 = hx_it (fun x F => hx_it (fun y F => upd F (x * 12 + y) ((fun x y => hx_tc f2 ax (nI x) (nI y)) x y)) 12 F) x f → hsV Pg l En rX1_becomeTurned Ss Mi Ar Be Me Co QQ 5 D vwCl AA Ss.heap 0 0 2 [(3, .int (nI x)), (0, .ref k), (1, .ref k2), (2, .int ax)] (ws.set qa (a, .inl (cI, 144, .inl F1))) [] := by
    intro d2
    induction d2 with
    | zero =>
      intro x kq2 F1 e_F1
      obtain rfl : x = 12 := by omega
      refine hv_iload_n h dX1_becomeTurned_2 0 rfl rfl ?_
      refine hv_bipush h (nI 12) dX1_becomeTurned_3 (by decide) ?_
      refine hv_icmp_ge h 50 dX1_becomeTurned_5 rfl (fun c5 => ?_) (fun hc => absurd (Int32.le_refl _) hc)
      exact hv_vret h hr hlk hQ dX1_becomeTurned_50 (by rw [e_F1]; rfl)
    | succ d2 ih2 =>
      intro x kq2 F1 e_F1
      have hlt2 : x < 12 := by omega
      refine hv_iload_n h dX1_becomeTurned_2 0 rfl rfl ?_
      refine hv_bipush h (nI 12) dX1_becomeTurned_3 (by decide) ?_
      refine hv_icmp_ge h 50 dX1_becomeTurned_5 rfl (fun hc => absurd hc (nI_ge hlt2 (by decide))) (fun c5 => ?_)
      refine hv_iconst h (nI 0) dX1_becomeTurned_8 (by decide) ?_
      refine hv_istore h [(4, .int (nI 0)), (3, .int (nI x)), (0, .ref k), (1, .ref k2), (2, .int ax)] dX1_becomeTurned_9 (by decide) rfl ?_
      have L11 : ∀ d11 y : Nat, y + d11 = 12 → ∀ (F2 : Nat → Int32), F2 = hx_it (fun y F => upd F (x * 12 + y) ((fun x y => hx_tc f2 ax (nI x) (nI y)) x y)) y F1 → hsV Pg l En rX1_becomeTurned Ss Mi Ar Be Me Co QQ 5 D vwCl AA Ss.heap 0 0 11 [(4, .int (nI y)), (3, .int (nI x)), (0, .ref k), (1, .ref k2), (2, .int ax)] (ws.set qa (a, .inl (cI, 144, .inl F2))) [] := by
        intro d11
        induction d11 with
        | zero =>
          intro y kq11 F2 e_F2
          obtain rfl : y = 12 := by omega
          refine hv_iload h dX1_becomeTurned_11 0 rfl ?_
          refine hv_bipush h (nI 12) dX1_becomeTurned_13 (by decide) ?_
          refine hv_icmp_ge h 44 dX1_becomeTurned_15 rfl (fun c15 => ?_) (fun hc => absurd (Int32.le_refl _) hc)
          refine hv_iinc h (nI (x + 1)) [(3, .int (nI (x + 1))), (4, .int (nI 12)), (0, .ref k), (1, .ref k2), (2, .int ax)] dX1_becomeTurned_44 1 rfl (hs_inc _) (by decide) rfl ?_
          refine hv_goto h 2 dX1_becomeTurned_47 rfl ?_
          refine hs_pick (lv' := [(3, .int (nI (x + 1))), (0, .ref k), (1, .ref k2), (2, .int ax)]) [0, 2, 3, 4] rfl ?_
          exact ih2 (x + 1) (by omega) _ (by rw [hx_it_s, ← e_F1]; try first | assumption | with_reducible rfl | (simp [c5, c15]; done))
        | succ d11 ih11 =>
          intro y kq11 F2 e_F2
          have hlt11 : y < 12 := by omega
          refine hv_iload h dX1_becomeTurned_11 0 rfl ?_
          refine hv_bipush h (nI 12) dX1_becomeTurned_13 (by decide) ?_
          refine hv_icmp_ge h 44 dX1_becomeTurned_15 rfl (fun hc => absurd hc (nI_ge hlt11 (by decide))) (fun c15 => ?_)
          refine hv_aload_n h dX1_becomeTurned_18 2 rfl rfl ?_
          refine hv_get (C := RX1) (T := TX1) (N := 1) h q (hs_oth n0 hk) rfl 0 (by decide) wu_X1 w_fieldLink_X1_9 (fun _ h9 => h9) rfl dX1_becomeTurned_19 ?_
          refine hv_iload_n h dX1_becomeTurned_22 1 rfl rfl ?_
          refine hv_bipush h (12) dX1_becomeTurned_23 (by decide) ?_
          refine hw_imul h (nI (x * 12)) dX1_becomeTurned_25 (pk_mul x 12) ?_
          refine hv_iload h dX1_becomeTurned_26 0 rfl ?_
          refine hw_iadd h (nI ((x * 12) + y)) dX1_becomeTurned_28 (nI_add (x * 12) y) ?_
          refine hv_aload_n h dX1_becomeTurned_29 3 rfl rfl ?_
          refine hv_iload_n h dX1_becomeTurned_30 4 rfl rfl ?_
          refine hv_iload_n h dX1_becomeTurned_31 1 rfl rfl ?_
          refine hv_iload h dX1_becomeTurned_32 0 rfl ?_
          refine hv_callp (ws' := (ws.set qa (a, .inl (cI, 144, .inl F2)))) (v := hx_tc f2 ax (nI x) (nI y)) h (hr_Si (n := 4) (rest := [.int (nI ((x * 12) + y)), .ref a]) h (k_X1_turnedColumn l D cI cC (ws.set qa (a, .inl (cI, 144, .inl F2))) q2 q2a k2 a2 f2 (hs_oth n2 hk2) (hs_oth n2a ha2) ax (nI x) (nI y)) w_methodLink_X1_33 w_static_X1_turnedColumn w_initialized_X1 w_code_X1_turnedColumn (by decide +kernel) rfl rfl rfl ⟨by decide, by decide⟩ rfl (Nat.le_of_ble_eq_true rfl) ⟨Nat.zero_le _, Nat.zero_le _⟩ dX1_becomeTurned_34) ?_
          refine hv_iast (ws' := (ws.set qa (a, .inl (cI, 144, .inl (upd F2 ((x * 12) + y) (hx_tc f2 ax (nI x) (nI y))))))) h qa 0 (hs_got ha) rfl (vp_in_nI (by omega) (by decide)) dX1_becomeTurned_37 (by rw [nI_clamp (by omega), List.set_set]) ?_
          refine hv_iinc h (nI (y + 1)) [(4, .int (nI (y + 1))), (3, .int (nI x)), (0, .ref k), (1, .ref k2), (2, .int ax)] dX1_becomeTurned_38 0 rfl (hs_inc _) (by decide) rfl ?_
          refine hv_goto h 11 dX1_becomeTurned_41 rfl ?_
          exact ih11 (y + 1) (by omega) _ (by rw [hx_it_s, ← e_F2]; try first | assumption | with_reducible rfl | (simp [c5, c15]; done))
      exact L11 12 0 (by omega) _ rfl
  exact L2 12 0 (by omega) _ rfl
abbrev rX1_becomeMirrored : Room := { frames := 4, cells := 0, slots := 0, locals := 83 }
set_option maxHeartbeats 1000000 in
set_option maxRecDepth 100000 in
theorem k_X1_becomeMirrored (l : Launch) (D : va_G) (cI cC : ClassId) (ws : va_W) (q qa k a : Nat) (f : Nat → Int32) (hk : ws[q]? = some (k, .inr (hsCi, [.ref a]))) (ha : ws[qa]? = some (a, .inl (cI, 144, .inl f))) (n0 : qa ≠ q) (q2 q2a k2 a2 : Nat) (f2 : Nat → Int32) (hk2 : ws[q2]? = some (k2, .inr (hsCi, [.ref a2]))) (ha2 : ws[q2a]? = some (a2, .inl (cI, 144, .inl f2))) (n2 : qa ≠ q2) (n2a : qa ≠ q2a) (ax : Int32) : hsN l yX1_becomeMirrored wsX1_becomeMirrored rX1_becomeMirrored D vwCl (hsT cI cC) [.ref k, .ref k2, .int ax] ws (fun w => w = (ws.set qa (a, .inl (cI, 144, .inl (hx_fill (fun x y => hx_mc f2 ax (nI x) (nI y)) f))))) := by
  refine hsN.enter (cc := cX1_becomeMirrored) (maxL := 5) (ret := none) (by decide) rfl (Nat.le_of_ble_eq_true rfl) ?_
  intro Pg En Ss Mi Ar Be Me Co AA QQ hQ h hr hlk
  refine hs_lv (lv' := [(0, .ref k), (1, .ref k2), (2, .int ax)]) rfl ?_
  refine hv_iconst h (nI 0) dX1_becomeMirrored_0 (by decide) ?_
  refine hv_istore_n h [(3, .int (nI 0)), (0, .ref k), (1, .ref k2), (2, .int ax)] dX1_becomeMirrored_1 rfl (by decide) rfl ?_
  refine hs_ws (hs_self ha).symm ?_
  have L2 : ∀ d2 x : Nat, x + d2 = 12 → ∀ (F1 : Nat → Int32), F1 = hx_it (fun x F => hx_it (fun y F => upd F (x * 12 + y) ((fun x y => hx_mc f2 ax (nI x) (nI y)) x y)) 12 F) x f → hsV Pg l En rX1_becomeMirrored Ss Mi Ar Be Me Co QQ 5 D vwCl AA Ss.heap 0 0 2 [(3, .int (nI x)), (0, .ref k), (1, .ref k2), (2, .int ax)] (ws.set qa (a, .inl (cI, 144, .inl F1))) [] := by
    intro d2
    induction d2 with
    | zero =>
      intro x kq2 F1 e_F1
      obtain rfl : x = 12 := by omega
      refine hv_iload_n h dX1_becomeMirrored_2 0 rfl rfl ?_
      refine hv_bipush h (nI 12) dX1_becomeMirrored_3 (by decide) ?_
      refine hv_icmp_ge h 50 dX1_becomeMirrored_5 rfl (fun c5 => ?_) (fun hc => absurd (Int32.le_refl _) hc)
      exact hv_vret h hr hlk hQ dX1_becomeMirrored_50 (by rw [e_F1]; rfl)
    | succ d2 ih2 =>
      intro x kq2 F1 e_F1
      have hlt2 : x < 12 := by omega
      refine hv_iload_n h dX1_becomeMirrored_2 0 rfl rfl ?_
      refine hv_bipush h (nI 12) dX1_becomeMirrored_3 (by decide) ?_
      refine hv_icmp_ge h 50 dX1_becomeMirrored_5 rfl (fun hc => absurd hc (nI_ge hlt2 (by decide))) (fun c5 => ?_)
      refine hv_iconst h (nI 0) dX1_becomeMirrored_8 (by decide) ?_
      refine hv_istore h [(4, .int (nI 0)), (3, .int (nI x)), (0, .ref k), (1, .ref k2), (2, .int ax)] dX1_becomeMirrored_9 (by decide) rfl ?_
      have L11 : ∀ d11 y : Nat, y + d11 = 12 → ∀ (F2 : Nat → Int32), F2 = hx_it (fun y F => upd F (x * 12 + y) ((fun x y => hx_mc f2 ax (nI x) (nI y)) x y)) y F1 → hsV Pg l En rX1_becomeMirrored Ss Mi Ar Be Me Co QQ 5 D vwCl AA Ss.heap 0 0 11 [(4, .int (nI y)), (3, .int (nI x)), (0, .ref k), (1, .ref k2), (2, .int ax)] (ws.set qa (a, .inl (cI, 144, .inl F2))) [] := by
        intro d11
        induction d11 with
        | zero =>
          intro y kq11 F2 e_F2
          obtain rfl : y = 12 := by omega
          refine hv_iload h dX1_becomeMirrored_11 0 rfl ?_
          refine hv_bipush h (nI 12) dX1_becomeMirrored_13 (by decide) ?_
          refine hv_icmp_ge h 44 dX1_becomeMirrored_15 rfl (fun c15 => ?_) (fun hc => absurd (Int32.le_refl _) hc)
          refine hv_iinc h (nI (x + 1)) [(3, .int (nI (x + 1))), (4, .int (nI 12)), (0, .ref k), (1, .ref k2), (2, .int ax)] dX1_becomeMirrored_44 1 rfl (hs_inc _) (by decide) rfl ?_
          refine hv_goto h 2 dX1_becomeMirrored_47 rfl ?_
          refine hs_pick (lv' := [(3, .int (nI (x + 1))), (0, .ref k), (1, .ref k2), (2, .int ax)]) [0, 2, 3, 4] rfl ?_
          exact ih2 (x + 1) (by omega) _ (by rw [hx_it_s, ← e_F1]; try first | assumption | with_reducible rfl | (simp [c5, c15]; done))
        | succ d11 ih11 =>
          intro y kq11 F2 e_F2
          have hlt11 : y < 12 := by omega
          refine hv_iload h dX1_becomeMirrored_11 0 rfl ?_
          refine hv_bipush h (nI 12) dX1_becomeMirrored_13 (by decide) ?_
          refine hv_icmp_ge h 44 dX1_becomeMirrored_15 rfl (fun hc => absurd hc (nI_ge hlt11 (by decide))) (fun c15 => ?_)
          refine hv_aload_n h dX1_becomeMirrored_18 2 rfl rfl ?_
          refine hv_get (C := RX1) (T := TX1) (N := 1) h q (hs_oth n0 hk) rfl 0 (by decide) wu_X1 w_fieldLink_X1_9 (fun _ h9 => h9) rfl dX1_becomeMirrored_19 ?_
          refine hv_iload_n h dX1_becomeMirrored_22 1 rfl rfl ?_
          refine hv_bipush h (12) dX1_becomeMirrored_23 (by decide) ?_
          refine hw_imul h (nI (x * 12)) dX1_becomeMirrored_25 (pk_mul x 12) ?_
          refine hv_iload h dX1_becomeMirrored_26 0 rfl ?_
          refine hw_iadd h (nI ((x * 12) + y)) dX1_becomeMirrored_28 (nI_add (x * 12) y) ?_
          refine hv_aload_n h dX1_becomeMirrored_29 3 rfl rfl ?_
          refine hv_iload_n h dX1_becomeMirrored_30 4 rfl rfl ?_
          refine hv_iload_n h dX1_becomeMirrored_31 1 rfl rfl ?_
          refine hv_iload h dX1_becomeMirrored_32 0 rfl ?_
          refine hv_callp (ws' := (ws.set qa (a, .inl (cI, 144, .inl F2)))) (v := hx_mc f2 ax (nI x) (nI y)) h (hr_Si (n := 4) (rest := [.int (nI ((x * 12) + y)), .ref a]) h (k_X1_mirroredColumn l D cI cC (ws.set qa (a, .inl (cI, 144, .inl F2))) q2 q2a k2 a2 f2 (hs_oth n2 hk2) (hs_oth n2a ha2) ax (nI x) (nI y)) w_methodLink_X1_37 w_static_X1_mirroredColumn w_initialized_X1 w_code_X1_mirroredColumn (by decide +kernel) rfl rfl rfl ⟨by decide, by decide⟩ rfl (Nat.le_of_ble_eq_true rfl) ⟨Nat.zero_le _, Nat.zero_le _⟩ dX1_becomeMirrored_34) ?_
          refine hv_iast (ws' := (ws.set qa (a, .inl (cI, 144, .inl (upd F2 ((x * 12) + y) (hx_mc f2 ax (nI x) (nI y))))))) h qa 0 (hs_got ha) rfl (vp_in_nI (by omega) (by decide)) dX1_becomeMirrored_37 (by rw [nI_clamp (by omega), List.set_set]) ?_
          refine hv_iinc h (nI (y + 1)) [(4, .int (nI (y + 1))), (3, .int (nI x)), (0, .ref k), (1, .ref k2), (2, .int ax)] dX1_becomeMirrored_38 0 rfl (hs_inc _) (by decide) rfl ?_
          refine hv_goto h 11 dX1_becomeMirrored_41 rfl ?_
          exact ih11 (y + 1) (by omega) _ (by rw [hx_it_s, ← e_F2]; try first | assumption | with_reducible rfl | (simp [c5, c15]; done))
      exact L11 12 0 (by omega) _ rfl
  exact L2 12 0 (by omega) _ rfl
abbrev rX1_becomeShifted : Room := { frames := 2, cells := 0, slots := 0, locals := 42 }
set_option maxHeartbeats 1000000 in
set_option maxRecDepth 100000 in
theorem k_X1_becomeShifted (l : Launch) (D : va_G) (cI cC : ClassId) (ws : va_W) (q qa k a : Nat) (f : Nat → Int32) (hk : ws[q]? = some (k, .inr (hsCi, [.ref a]))) (ha : ws[qa]? = some (a, .inl (cI, 144, .inl f))) (n0 : qa ≠ q) (q2 q2a k2 a2 : Nat) (f2 : Nat → Int32) (hk2 : ws[q2]? = some (k2, .inr (hsCi, [.ref a2]))) (ha2 : ws[q2a]? = some (a2, .inl (cI, 144, .inl f2))) (n2 : qa ≠ q2) (n2a : qa ≠ q2a) (dx : Int32) (dy : Int32) (dz : Int32) : hsN l yX1_becomeShifted wsX1_becomeShifted rX1_becomeShifted D vwCl (hsT cI cC) [.ref k, .ref k2, .int dx, .int dy, .int dz] ws (fun w => w = (ws.set qa (a, .inl (cI, 144, .inl (hx_fill (hx_sh f2 dx dy dz) f))))) := by
  refine hsN.enter (cc := cX1_becomeShifted) (maxL := 8) (ret := none) (by decide) rfl (Nat.le_of_ble_eq_true rfl) ?_
  intro Pg En Ss Mi Ar Be Me Co AA QQ hQ h hr hlk
  refine hs_lv (lv' := [(0, .ref k), (1, .ref k2), (2, .int dx), (3, .int dy), (4, .int dz)]) rfl ?_
  refine hv_iconst h (nI 0) dX1_becomeShifted_0 (by decide) ?_
  refine hv_istore h [(5, .int (nI 0)), (0, .ref k), (1, .ref k2), (2, .int dx), (3, .int dy), (4, .int dz)] dX1_becomeShifted_1 (by decide) rfl ?_
  refine hs_ws (hs_self ha).symm ?_
  have L3 : ∀ d3 x : Nat, x + d3 = 12 → ∀ (F1 : Nat → Int32), F1 = hx_it (fun x F => hx_it (fun y F => upd F (x * 12 + y) ((hx_sh f2 dx dy dz) x y)) 12 F) x f → hsV Pg l En rX1_becomeShifted Ss Mi Ar Be Me Co QQ 8 D vwCl AA Ss.heap 0 0 3 [(5, .int (nI x)), (0, .ref k), (1, .ref k2), (2, .int dx), (3, .int dy), (4, .int dz)] (ws.set qa (a, .inl (cI, 144, .inl F1))) [] := by
    intro d3
    induction d3 with
    | zero =>
      intro x kq3 F1 e_F1
      obtain rfl : x = 12 := by omega
      refine hv_iload h dX1_becomeShifted_3 0 rfl ?_
      refine hv_bipush h (nI 12) dX1_becomeShifted_5 (by decide) ?_
      refine hv_icmp_ge h 78 dX1_becomeShifted_7 rfl (fun c7 => ?_) (fun hc => absurd (Int32.le_refl _) hc)
      exact hv_vret h hr hlk hQ dX1_becomeShifted_78 (by rw [e_F1]; rfl)
    | succ d3 ih3 =>
      intro x kq3 F1 e_F1
      have hlt3 : x < 12 := by omega
      refine hv_iload h dX1_becomeShifted_3 0 rfl ?_
      refine hv_bipush h (nI 12) dX1_becomeShifted_5 (by decide) ?_
      refine hv_icmp_ge h 78 dX1_becomeShifted_7 rfl (fun hc => absurd hc (nI_ge hlt3 (by decide))) (fun c7 => ?_)
      refine hv_iconst h (nI 0) dX1_becomeShifted_10 (by decide) ?_
      refine hv_istore h [(6, .int (nI 0)), (5, .int (nI x)), (0, .ref k), (1, .ref k2), (2, .int dx), (3, .int dy), (4, .int dz)] dX1_becomeShifted_11 (by decide) rfl ?_
      have L13 : ∀ d13 y : Nat, y + d13 = 12 → ∀ (F2 : Nat → Int32), F2 = hx_it (fun y F => upd F (x * 12 + y) ((hx_sh f2 dx dy dz) x y)) y F1 → hsV Pg l En rX1_becomeShifted Ss Mi Ar Be Me Co QQ 8 D vwCl AA Ss.heap 0 0 13 [(6, .int (nI y)), (5, .int (nI x)), (0, .ref k), (1, .ref k2), (2, .int dx), (3, .int dy), (4, .int dz)] (ws.set qa (a, .inl (cI, 144, .inl F2))) [] := by
        intro d13
        induction d13 with
        | zero =>
          intro y kq13 F2 e_F2
          obtain rfl : y = 12 := by omega
          refine hv_iload h dX1_becomeShifted_13 0 rfl ?_
          refine hv_bipush h (nI 12) dX1_becomeShifted_15 (by decide) ?_
          refine hv_icmp_ge h 72 dX1_becomeShifted_17 rfl (fun c17 => ?_) (fun hc => absurd (Int32.le_refl _) hc)
          refine hv_iinc h (nI (x + 1)) [(5, .int (nI (x + 1))), (6, .int (nI 12)), (0, .ref k), (1, .ref k2), (2, .int dx), (3, .int dy), (4, .int dz)] dX1_becomeShifted_72 1 rfl (hs_inc _) (by decide) rfl ?_
          refine hv_goto h 3 dX1_becomeShifted_75 rfl ?_
          refine hs_pick (lv' := [(5, .int (nI (x + 1))), (0, .ref k), (1, .ref k2), (2, .int dx), (3, .int dy), (4, .int dz)]) [0, 2, 3, 4, 5, 6] rfl ?_
          exact ih3 (x + 1) (by omega) _ (by rw [hx_it_s, ← e_F1]; try first | assumption | with_reducible rfl | (simp [c7, c17]; done))
        | succ d13 ih13 =>
          intro y kq13 F2 e_F2
          have hlt13 : y < 12 := by omega
          refine hv_iload h dX1_becomeShifted_13 0 rfl ?_
          refine hv_bipush h (nI 12) dX1_becomeShifted_15 (by decide) ?_
          refine hv_icmp_ge h 72 dX1_becomeShifted_17 rfl (fun hc => absurd hc (nI_ge hlt13 (by decide))) (fun c17 => ?_)
          refine hv_aload_n h dX1_becomeShifted_20 3 rfl rfl ?_
          refine hv_iload h dX1_becomeShifted_21 1 rfl ?_
          refine hv_iload_n h dX1_becomeShifted_23 4 rfl rfl ?_
          refine hv_isub h dX1_becomeShifted_24 ?_
          refine hv_iload h dX1_becomeShifted_25 0 rfl ?_
          refine hv_iload_n h dX1_becomeShifted_27 5 rfl rfl ?_
          refine hv_isub h dX1_becomeShifted_28 ?_
          refine hv_callp (ws' := (ws.set qa (a, .inl (cI, 144, .inl F2)))) (v := hx_col f2 ((nI x) - dx) ((nI y) - dy)) h (hr_Vi (n := 2) (rest := []) h q2 (hs_oth n2 hk2) rfl (k_X1_column l D cI cC (ws.set qa (a, .inl (cI, 144, .inl F2))) q2 q2a k2 a2 f2 (hs_oth n2 hk2) (hs_oth n2a ha2) ((nI x) - dx) ((nI y) - dy)) w_methodLink_X1_19 w_instanceMethod_X1_column w_selects_X1_column w_initialized_X1 w_code_X1_column (by decide +kernel) rfl rfl rfl ⟨by decide, by decide⟩ rfl (Nat.le_of_ble_eq_true rfl) ⟨Nat.zero_le _, Nat.zero_le _⟩ dX1_becomeShifted_29) ?_
          refine hv_istore h [(7, .int (hx_col f2 ((nI x) - dx) ((nI y) - dy))), (6, .int (nI y)), (5, .int (nI x)), (0, .ref k), (1, .ref k2), (2, .int dx), (3, .int dy), (4, .int dz)] dX1_becomeShifted_32 (by decide) rfl ?_
          refine hv_aload_n h dX1_becomeShifted_34 3 rfl rfl ?_
          refine hv_get (C := RX1) (T := TX1) (N := 1) h q (hs_oth n0 hk) rfl 0 (by decide) wu_X1 w_fieldLink_X1_9 (fun _ h9 => h9) rfl dX1_becomeShifted_35 ?_
          refine hv_iload h dX1_becomeShifted_38 2 rfl ?_
          refine hv_bipush h (12) dX1_becomeShifted_40 (by decide) ?_
          refine hw_imul h (nI (x * 12)) dX1_becomeShifted_42 (pk_mul x 12) ?_
          refine hv_iload h dX1_becomeShifted_43 1 rfl ?_
          refine hw_iadd h (nI ((x * 12) + y)) dX1_becomeShifted_45 (nI_add (x * 12) y) ?_
          refine hv_iload h dX1_becomeShifted_46 7 rfl ?_
          refine hv_if_ge h 60 dX1_becomeShifted_48 rfl (fun c48 => ?_) (fun c48 => ?_)
          · refine hv_iload h dX1_becomeShifted_60 0 rfl ?_
            refine hv_iload h dX1_becomeShifted_62 7 rfl ?_
            refine hv_ishl h dX1_becomeShifted_64 ?_
            refine hv_iast (ws' := (ws.set qa (a, .inl (cI, 144, .inl (upd F2 ((x * 12) + y) ((hx_col f2 ((nI x) - dx) ((nI y) - dy)) <<< (dz &&& 31))))))) h qa 0 (hs_got ha) rfl (vp_in_nI (by omega) (by decide)) dX1_becomeShifted_65 (by rw [nI_clamp (by omega), List.set_set]) ?_
            refine hv_iinc h (nI (y + 1)) [(6, .int (nI (y + 1))), (7, .int (hx_col f2 ((nI x) - dx) ((nI y) - dy))), (5, .int (nI x)), (0, .ref k), (1, .ref k2), (2, .int dx), (3, .int dy), (4, .int dz)] dX1_becomeShifted_66 1 rfl (hs_inc _) (by decide) rfl ?_
            refine hv_goto h 13 dX1_becomeShifted_69 rfl ?_
            refine hs_pick (lv' := [(6, .int (nI (y + 1))), (5, .int (nI x)), (0, .ref k), (1, .ref k2), (2, .int dx), (3, .int dy), (4, .int dz)]) [0, 2, 3, 4, 5, 6, 7] rfl ?_
            exact ih13 (y + 1) (by omega) _ (by rw [hx_it_s, ← e_F2]; try first | assumption | with_reducible rfl | (simp [hx_sh, c7, c17, c48]; done))
          · refine hv_iload h dX1_becomeShifted_51 0 rfl ?_
            refine hv_iload h dX1_becomeShifted_53 7 rfl ?_
            refine hv_ineg h dX1_becomeShifted_55 ?_
            refine hv_ishr h dX1_becomeShifted_56 ?_
            refine hv_goto h 65 dX1_becomeShifted_57 rfl ?_
            refine hv_iast (ws' := (ws.set qa (a, .inl (cI, 144, .inl (upd F2 ((x * 12) + y) ((hx_col f2 ((nI x) - dx) ((nI y) - dy)) >>> ((-dz) &&& 31))))))) h qa 0 (hs_got ha) rfl (vp_in_nI (by omega) (by decide)) dX1_becomeShifted_65 (by rw [nI_clamp (by omega), List.set_set]) ?_
            refine hv_iinc h (nI (y + 1)) [(6, .int (nI (y + 1))), (7, .int (hx_col f2 ((nI x) - dx) ((nI y) - dy))), (5, .int (nI x)), (0, .ref k), (1, .ref k2), (2, .int dx), (3, .int dy), (4, .int dz)] dX1_becomeShifted_66 1 rfl (hs_inc _) (by decide) rfl ?_
            refine hv_goto h 13 dX1_becomeShifted_69 rfl ?_
            refine hs_pick (lv' := [(6, .int (nI (y + 1))), (5, .int (nI x)), (0, .ref k), (1, .ref k2), (2, .int dx), (3, .int dy), (4, .int dz)]) [0, 2, 3, 4, 5, 6, 7] rfl ?_
            exact ih13 (y + 1) (by omega) _ (by rw [hx_it_s, ← e_F2]; try first | assumption | with_reducible rfl | (simp [hx_sh, c7, c17, c48]; done))
      exact L13 12 0 (by omega) _ rfl
  exact L3 12 0 (by omega) _ rfl
