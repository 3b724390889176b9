abbrev rX1_becomeSwept : Room := { frames := 2, cells := 0, slots := 0, locals := 42 }
set_option maxHeartbeats 1000000 in
set_option maxRecDepth 100000 in
theorem k_X1_becomeSwept (l : Launch) (D : va_G) (cI cC : ClassId) (ws : va_W) (q qa k a : Nat) (f : Nat → Int32) (hk : ws[q]? = some (k, .inr (hsCi, [.ref a]))) (ha : ws[qa]? = some (a, .inl (cI, 144, .inl f))) (n0 : qa ≠ q) (q2 q2a k2 a2 : Nat) (f2 : Nat → Int32) (hk2 : ws[q2]? = some (k2, .inr (hsCi, [.ref a2]))) (ha2 : ws[q2a]? = some (a2, .inl (cI, 144, .inl f2))) (n2 : qa ≠ q2) (n2a : qa ≠ q2a) (ax : Int32) (w0 : Int32) (b0 : Int32) (b1 : Int32) : hsN l yX1_becomeSwept wsX1_becomeSwept rX1_becomeSwept D vwCl (hsT cI cC) [.ref k, .ref k2, .int ax, .int w0, .int b0, .int b1] ws (fun w => w = (ws.set qa (a, .inl (cI, 144, .inl (hx_fill (hx_sw f2 ax w0 b0 b1) f))))) := by
  refine hsN.enter (cc := cX1_becomeSwept) (maxL := 10) (ret := none) (by decide) rfl (Nat.le_of_ble_eq_true rfl) ?_
  intro Pg En Ss Mi Ar Be Me Co AA QQ hQ h hr hlk
  refine hs_lv (lv' := [(0, .ref k), (1, .ref k2), (2, .int ax), (3, .int w0), (4, .int b0), (5, .int b1)]) rfl ?_
  refine hv_iload h dX1_becomeSwept_0 4 rfl ?_
  refine hv_iload h dX1_becomeSwept_2 5 rfl ?_
  refine hv_callp (ws' := ws) (v := hx_span b0 b1) h (hr_Si (n := 2) (rest := []) h (k_X1_spanOf l D cI cC ws b0 b1) w_methodLink_X1_27 w_static_X1_spanOf w_initialized_X1 w_code_X1_spanOf (by decide +kernel) rfl rfl rfl ⟨by decide, by decide⟩ rfl (Nat.le_of_ble_eq_true rfl) ⟨Nat.zero_le _, Nat.zero_le _⟩ dX1_becomeSwept_4) ?_
  refine hv_istore h [(6, .int (hx_span b0 b1)), (0, .ref k), (1, .ref k2), (2, .int ax), (3, .int w0), (4, .int b0), (5, .int b1)] dX1_becomeSwept_7 (by decide) rfl ?_
  refine hv_iconst h (nI 0) dX1_becomeSwept_9 (by decide) ?_
  refine hv_istore h [(7, .int (nI 0)), (6, .int (hx_span b0 b1)), (0, .ref k), (1, .ref k2), (2, .int ax), (3, .int w0), (4, .int b0), (5, .int b1)] dX1_becomeSwept_10 (by decide) rfl ?_
  refine hs_ws (hs_self ha).symm ?_
  have L12 : ∀ d12 x : Nat, x + d12 = 12 → ∀ (F1 : Nat → Int32), F1 = hx_it (fun x F => hx_it (fun y F => upd F (x * 12 + y) ((hx_sw f2 ax w0 b0 b1) x y)) 12 F) x f → hsV Pg l En rX1_becomeSwept Ss Mi Ar Be Me Co QQ 10 D vwCl AA Ss.heap 0 0 12 [(7, .int (nI x)), (6, .int (hx_span b0 b1)), (0, .ref k), (1, .ref k2), (2, .int ax), (3, .int w0), (4, .int b0), (5, .int b1)] (ws.set qa (a, .inl (cI, 144, .inl F1))) [] := by
    intro d12
    induction d12 with
    | zero =>
      intro x kq12 F1 e_F1
      obtain rfl : x = 12 := by omega
      refine hv_iload h dX1_becomeSwept_12 0 rfl ?_
      refine hv_bipush h (nI 12) dX1_becomeSwept_14 (by decide) ?_
      refine hv_icmp_ge h 149 dX1_becomeSwept_16 rfl (fun c16 => ?_) (fun hc => absurd (Int32.le_refl _) hc)
      exact hv_vret h hr hlk hQ dX1_becomeSwept_149 (by rw [e_F1]; rfl)
    | succ d12 ih12 =>
      intro x kq12 F1 e_F1
      have hlt12 : x < 12 := by omega
      refine hv_iload h dX1_becomeSwept_12 0 rfl ?_
      refine hv_bipush h (nI 12) dX1_becomeSwept_14 (by decide) ?_
      refine hv_icmp_ge h 149 dX1_becomeSwept_16 rfl (fun hc => absurd hc (nI_ge hlt12 (by decide))) (fun c16 => ?_)
      refine hv_iconst h (nI 0) dX1_becomeSwept_19 (by decide) ?_
      refine hv_istore h [(8, .int (nI 0)), (7, .int (nI x)), (6, .int (hx_span b0 b1)), (0, .ref k), (1, .ref k2), (2, .int ax), (3, .int w0), (4, .int b0), (5, .int b1)] dX1_becomeSwept_20 (by decide) rfl ?_
      have L22 : ∀ d22 y : Nat, y + d22 = 12 → ∀ (F2 : Nat → Int32), F2 = hx_it (fun y F => upd F (x * 12 + y) ((hx_sw f2 ax w0 b0 b1) x y)) y F1 → hsV Pg l En rX1_becomeSwept Ss Mi Ar Be Me Co QQ 10 D vwCl AA Ss.heap 0 0 22 [(8, .int (nI y)), (7, .int (nI x)), (6, .int (hx_span b0 b1)), (0, .ref k), (1, .ref k2), (2, .int ax), (3, .int w0), (4, .int b0), (5, .int b1)] (ws.set qa (a, .inl (cI, 144, .inl F2))) [] := by
        intro d22
        induction d22 with
        | zero =>
          intro y kq22 F2 e_F2
          obtain rfl : y = 12 := by omega
          refine hv_iload h dX1_becomeSwept_22 0 rfl ?_
          refine hv_bipush h (nI 12) dX1_becomeSwept_24 (by decide) ?_
          refine hv_icmp_ge h 143 dX1_becomeSwept_26 rfl (fun c26 => ?_) (fun hc => absurd (Int32.le_refl _) hc)
          refine hv_iinc h (nI (x + 1)) [(7, .int (nI (x + 1))), (8, .int (nI 12)), (6, .int (hx_span b0 b1)), (0, .ref k), (1, .ref k2), (2, .int ax), (3, .int w0), (4, .int b0), (5, .int b1)] dX1_becomeSwept_143 1 rfl (hs_inc _) (by decide) rfl ?_
          refine hv_goto h 12 dX1_becomeSwept_146 rfl ?_
          refine hs_pick (lv' := [(7, .int (nI (x + 1))), (6, .int (hx_span b0 b1)), (0, .ref k), (1, .ref k2), (2, .int ax), (3, .int w0), (4, .int b0), (5, .int b1)]) [0, 2, 3, 4, 5, 6, 7, 8] rfl ?_
          exact ih12 (x + 1) (by omega) _ (by rw [hx_it_s, ← e_F1]; try first | assumption | with_reducible rfl | (simp [c16, c26]; done))
        | succ d22 ih22 =>
          intro y kq22 F2 e_F2
          have hlt22 : y < 12 := by omega
          refine hv_iload h dX1_becomeSwept_22 0 rfl ?_
          refine hv_bipush h (nI 12) dX1_becomeSwept_24 (by decide) ?_
          refine hv_icmp_ge h 143 dX1_becomeSwept_26 rfl (fun hc => absurd hc (nI_ge hlt22 (by decide))) (fun c26 => ?_)
          refine hv_iload_n h dX1_becomeSwept_29 5 rfl rfl ?_
          refine hv_if_ne h 63 dX1_becomeSwept_30 rfl (fun c30 => ?_) (fun c30 => ?_)
          · refine hv_iload_n h dX1_becomeSwept_63 5 rfl rfl ?_
            refine hv_iconst h (1) dX1_becomeSwept_64 (by decide) ?_
            refine hv_icmp_ne h 98 dX1_becomeSwept_65 rfl (fun c65 => ?_) (fun c65 => ?_)
            · refine hv_aload_n h dX1_becomeSwept_98 4 rfl rfl ?_
              refine hv_iload h dX1_becomeSwept_99 1 rfl ?_
              refine hv_iload h dX1_becomeSwept_101 0 rfl ?_
              refine hv_callp (ws' := (ws.set qa (a, .inl (cI, 144, .inl F2)))) (v := hx_col f2 (nI x) (nI y)) h (hr_Vi (n := 2) (rest := []) h q2 (hs_oth n2 hk2) rfl (k_X1_column l D cI cC (ws.set qa (a, .inl (cI, 144, .inl F2))) q2 q2a k2 a2 f2 (hs_oth n2 hk2) (hs_oth n2a ha2) (nI x) (nI y)) w_methodLink_X1_19 w_instanceMethod_X1_column w_selects_X1_column w_initialized_X1 w_code_X1_column (by decide +kernel) rfl rfl rfl ⟨by decide, by decide⟩ rfl (Nat.le_of_ble_eq_true rfl) ⟨Nat.zero_le _, Nat.zero_le _⟩ dX1_becomeSwept_103) ?_
              refine hv_iload_n h dX1_becomeSwept_106 6 rfl rfl ?_
              refine hv_ishr h dX1_becomeSwept_107 ?_
              refine hv_iconst h (1) dX1_becomeSwept_108 (by decide) ?_
              refine hv_iand h dX1_becomeSwept_109 ?_
              refine hv_iconst h (1) dX1_becomeSwept_110 (by decide) ?_
              refine hv_icmp_ne h 119 dX1_becomeSwept_111 rfl (fun c111 => ?_) (fun c111 => ?_)
              · refine hv_iconst h (0) dX1_becomeSwept_119 (by decide) ?_
                refine hv_istore h [(9, .int 0), (8, .int (nI y)), (7, .int (nI x)), (6, .int (hx_span b0 b1)), (0, .ref k), (1, .ref k2), (2, .int ax), (3, .int w0), (4, .int b0), (5, .int b1)] dX1_becomeSwept_120 (by decide) rfl ?_
                refine hv_aload_n h dX1_becomeSwept_122 4 rfl rfl ?_
                refine hv_get (C := RX1) (T := TX1) (N := 1) h q (hs_oth n0 hk) rfl 0 (by decide) wu_X1 w_fieldLink_X1_9 (fun _ h9 => h9) rfl dX1_becomeSwept_123 ?_
                refine hv_iload h dX1_becomeSwept_126 2 rfl ?_
                refine hv_bipush h (12) dX1_becomeSwept_128 (by decide) ?_
                refine hw_imul h (nI (x * 12)) dX1_becomeSwept_130 (pk_mul x 12) ?_
                refine hv_iload h dX1_becomeSwept_131 1 rfl ?_
                refine hw_iadd h (nI ((x * 12) + y)) dX1_becomeSwept_133 (nI_add (x * 12) y) ?_
                refine hv_iload h dX1_becomeSwept_134 0 rfl ?_
                refine hv_iast (ws' := (ws.set qa (a, .inl (cI, 144, .inl (upd F2 ((x * 12) + y) 0))))) h qa 0 (hs_got ha) rfl (vp_in_nI (by omega) (by decide)) dX1_becomeSwept_136 (by rw [nI_clamp (by omega), List.set_set]) ?_
                refine hv_iinc h (nI (y + 1)) [(8, .int (nI (y + 1))), (9, .int 0), (7, .int (nI x)), (6, .int (hx_span b0 b1)), (0, .ref k), (1, .ref k2), (2, .int ax), (3, .int w0), (4, .int b0), (5, .int b1)] dX1_becomeSwept_137 1 rfl (hs_inc _) (by decide) rfl ?_
                refine hv_goto h 22 dX1_becomeSwept_140 rfl ?_
                refine hs_pick (lv' := [(8, .int (nI (y + 1))), (7, .int (nI x)), (6, .int (hx_span b0 b1)), (0, .ref k), (1, .ref k2), (2, .int ax), (3, .int w0), (4, .int b0), (5, .int b1)]) [0, 2, 3, 4, 5, 6, 7, 8, 9] rfl ?_
                exact ih22 (y + 1) (by omega) _ (by rw [hx_it_s, ← e_F2]; try first | assumption | with_reducible rfl | (simp [hx_sw, c16, c26, c30, c65, c111]; done))
              · refine hv_iload h dX1_becomeSwept_114 2 rfl ?_
                refine hv_goto h 120 dX1_becomeSwept_116 rfl ?_
                refine hv_istore h [(9, .int (hx_span b0 b1)), (8, .int (nI y)), (7, .int (nI x)), (6, .int (hx_span b0 b1)), (0, .ref k), (1, .ref k2), (2, .int ax), (3, .int w0), (4, .int b0), (5, .int b1)] dX1_becomeSwept_120 (by decide) rfl ?_
                refine hv_aload_n h dX1_becomeSwept_122 4 rfl rfl ?_
                refine hv_get (C := RX1) (T := TX1) (N := 1) h q (hs_oth n0 hk) rfl 0 (by decide) wu_X1 w_fieldLink_X1_9 (fun _ h9 => h9) rfl dX1_becomeSwept_123 ?_
                refine hv_iload h dX1_becomeSwept_126 2 rfl ?_
                refine hv_bipush h (12) dX1_becomeSwept_128 (by decide) ?_
                refine hw_imul h (nI (x * 12)) dX1_becomeSwept_130 (pk_mul x 12) ?_
                refine hv_iload h dX1_becomeSwept_131 1 rfl ?_
                refine hw_iadd h (nI ((x * 12) + y)) dX1_becomeSwept_133 (nI_add (x * 12) y) ?_
                refine hv_iload h dX1_becomeSwept_134 0 rfl ?_
                refine hv_iast (ws' := (ws.set qa (a, .inl (cI, 144, .inl (upd F2 ((x * 12) + y) (hx_span b0 b1)))))) h qa 0 (hs_got ha) rfl (vp_in_nI (by omega) (by decide)) dX1_becomeSwept_136 (by rw [nI_clamp (by omega), List.set_set]) ?_
                refine hv_iinc h (nI (y + 1)) [(8, .int (nI (y + 1))), (9, .int (hx_span b0 b1)), (7, .int (nI x)), (6, .int (hx_span b0 b1)), (0, .ref k), (1, .ref k2), (2, .int ax), (3, .int w0), (4, .int b0), (5, .int b1)] dX1_becomeSwept_137 1 rfl (hs_inc _) (by decide) rfl ?_
                refine hv_goto h 22 dX1_becomeSwept_140 rfl ?_
                refine hs_pick (lv' := [(8, .int (nI (y + 1))), (7, .int (nI x)), (6, .int (hx_span b0 b1)), (0, .ref k), (1, .ref k2), (2, .int ax), (3, .int w0), (4, .int b0), (5, .int b1)]) [0, 2, 3, 4, 5, 6, 7, 8, 9] rfl ?_
                exact ih22 (y + 1) (by omega) _ (by rw [hx_it_s, ← e_F2]; try first | assumption | with_reducible rfl | (simp [hx_sw, c16, c26, c30, c65, c111]; done))
            · refine hv_iload h dX1_becomeSwept_68 0 rfl ?_
              refine hv_iload h dX1_becomeSwept_70 7 rfl ?_
              refine hv_icmp_lt h 92 dX1_becomeSwept_72 rfl (fun c72 => ?_) (fun c72 => ?_)
              · refine hv_iconst h (0) dX1_becomeSwept_92 (by decide) ?_
                refine hv_istore h [(9, .int 0), (8, .int (nI y)), (7, .int (nI x)), (6, .int (hx_span b0 b1)), (0, .ref k), (1, .ref k2), (2, .int ax), (3, .int w0), (4, .int b0), (5, .int b1)] dX1_becomeSwept_93 (by decide) rfl ?_
                refine hv_goto h 122 dX1_becomeSwept_95 rfl ?_
                refine hv_aload_n h dX1_becomeSwept_122 4 rfl rfl ?_
                refine hv_get (C := RX1) (T := TX1) (N := 1) h q (hs_oth n0 hk) rfl 0 (by decide) wu_X1 w_fieldLink_X1_9 (fun _ h9 => h9) rfl dX1_becomeSwept_123 ?_
                refine hv_iload h dX1_becomeSwept_126 2 rfl ?_
                refine hv_bipush h (12) dX1_becomeSwept_128 (by decide) ?_
                refine hw_imul h (nI (x * 12)) dX1_becomeSwept_130 (pk_mul x 12) ?_
                refine hv_iload h dX1_becomeSwept_131 1 rfl ?_
                refine hw_iadd h (nI ((x * 12) + y)) dX1_becomeSwept_133 (nI_add (x * 12) y) ?_
                refine hv_iload h dX1_becomeSwept_134 0 rfl ?_
                refine hv_iast (ws' := (ws.set qa (a, .inl (cI, 144, .inl (upd F2 ((x * 12) + y) 0))))) h qa 0 (hs_got ha) rfl (vp_in_nI (by omega) (by decide)) dX1_becomeSwept_136 (by rw [nI_clamp (by omega), List.set_set]) ?_
                refine hv_iinc h (nI (y + 1)) [(8, .int (nI (y + 1))), (9, .int 0), (7, .int (nI x)), (6, .int (hx_span b0 b1)), (0, .ref k), (1, .ref k2), (2, .int ax), (3, .int w0), (4, .int b0), (5, .int b1)] dX1_becomeSwept_137 1 rfl (hs_inc _) (by decide) rfl ?_
                refine hv_goto h 22 dX1_becomeSwept_140 rfl ?_
                refine hs_pick (lv' := [(8, .int (nI (y + 1))), (7, .int (nI x)), (6, .int (hx_span b0 b1)), (0, .ref k), (1, .ref k2), (2, .int ax), (3, .int w0), (4, .int b0), (5, .int b1)]) [0, 2, 3, 4, 5, 6, 7, 8, 9] rfl ?_
                exact ih22 (y + 1) (by omega) _ (by rw [hx_it_s, ← e_F2]; try first | assumption | with_reducible rfl | (simp [hx_sw, c16, c26, c30, c65, c72]; done))
              · refine hv_iload h dX1_becomeSwept_75 0 rfl ?_
                refine hv_iload h dX1_becomeSwept_77 8 rfl ?_
                refine hv_icmp_gt h 92 dX1_becomeSwept_79 rfl (fun c79 => ?_) (fun c79 => ?_)
                · refine hv_iconst h (0) dX1_becomeSwept_92 (by decide) ?_
                  refine hv_istore h [(9, .int 0), (8, .int (nI y)), (7, .int (nI x)), (6, .int (hx_span b0 b1)), (0, .ref k), (1, .ref k2), (2, .int ax), (3, .int w0), (4, .int b0), (5, .int b1)] dX1_becomeSwept_93 (by decide) rfl ?_
                  refine hv_goto h 122 dX1_becomeSwept_95 rfl ?_
                  refine hv_aload_n h dX1_becomeSwept_122 4 rfl rfl ?_
                  refine hv_get (C := RX1) (T := TX1) (N := 1) h q (hs_oth n0 hk) rfl 0 (by decide) wu_X1 w_fieldLink_X1_9 (fun _ h9 => h9) rfl dX1_becomeSwept_123 ?_
                  refine hv_iload h dX1_becomeSwept_126 2 rfl ?_
                  refine hv_bipush h (12) dX1_becomeSwept_128 (by decide) ?_
                  refine hw_imul h (nI (x * 12)) dX1_becomeSwept_130 (pk_mul x 12) ?_
                  refine hv_iload h dX1_becomeSwept_131 1 rfl ?_
                  refine hw_iadd h (nI ((x * 12) + y)) dX1_becomeSwept_133 (nI_add (x * 12) y) ?_
                  refine hv_iload h dX1_becomeSwept_134 0 rfl ?_
                  refine hv_iast (ws' := (ws.set qa (a, .inl (cI, 144, .inl (upd F2 ((x * 12) + y) 0))))) h qa 0 (hs_got ha) rfl (vp_in_nI (by omega) (by decide)) dX1_becomeSwept_136 (by rw [nI_clamp (by omega), List.set_set]) ?_
                  refine hv_iinc h (nI (y + 1)) [(8, .int (nI (y + 1))), (9, .int 0), (7, .int (nI x)), (6, .int (hx_span b0 b1)), (0, .ref k), (1, .ref k2), (2, .int ax), (3, .int w0), (4, .int b0), (5, .int b1)] dX1_becomeSwept_137 1 rfl (hs_inc _) (by decide) rfl ?_
                  refine hv_goto h 22 dX1_becomeSwept_140 rfl ?_
                  refine hs_pick (lv' := [(8, .int (nI (y + 1))), (7, .int (nI x)), (6, .int (hx_span b0 b1)), (0, .ref k), (1, .ref k2), (2, .int ax), (3, .int w0), (4, .int b0), (5, .int b1)]) [0, 2, 3, 4, 5, 6, 7, 8, 9] rfl ?_
                  exact ih22 (y + 1) (by omega) _ (by rw [hx_it_s, ← e_F2]; try first | assumption | with_reducible rfl | (simp [hx_sw, c16, c26, c30, c65, c72, c79]; done))
                · refine hv_aload_n h dX1_becomeSwept_82 4 rfl rfl ?_
                  refine hv_iload h dX1_becomeSwept_83 1 rfl ?_
                  refine hv_iload_n h dX1_becomeSwept_85 6 rfl rfl ?_
                  refine hv_callp (ws' := (ws.set qa (a, .inl (cI, 144, .inl F2)))) (v := hx_col f2 (nI x) w0) h (hr_Vi (n := 2) (rest := []) h q2 (hs_oth n2 hk2) rfl (k_X1_column l D cI cC (ws.set qa (a, .inl (cI, 144, .inl F2))) q2 q2a k2 a2 f2 (hs_oth n2 hk2) (hs_oth n2a ha2) (nI x) w0) w_methodLink_X1_19 w_instanceMethod_X1_column w_selects_X1_column w_initialized_X1 w_code_X1_column (by decide +kernel) rfl rfl rfl ⟨by decide, by decide⟩ rfl (Nat.le_of_ble_eq_true rfl) ⟨Nat.zero_le _, Nat.zero_le _⟩ dX1_becomeSwept_86) ?_
                  refine hv_goto h 93 dX1_becomeSwept_89 rfl ?_
                  refine hv_istore h [(9, .int (hx_col f2 (nI x) w0)), (8, .int (nI y)), (7, .int (nI x)), (6, .int (hx_span b0 b1)), (0, .ref k), (1, .ref k2), (2, .int ax), (3, .int w0), (4, .int b0), (5, .int b1)] dX1_becomeSwept_93 (by decide) rfl ?_
                  refine hv_goto h 122 dX1_becomeSwept_95 rfl ?_
                  refine hv_aload_n h dX1_becomeSwept_122 4 rfl rfl ?_
                  refine hv_get (C := RX1) (T := TX1) (N := 1) h q (hs_oth n0 hk) rfl 0 (by decide) wu_X1 w_fieldLink_X1_9 (fun _ h9 => h9) rfl dX1_becomeSwept_123 ?_
                  refine hv_iload h dX1_becomeSwept_126 2 rfl ?_
                  refine hv_bipush h (12) dX1_becomeSwept_128 (by decide) ?_
                  refine hw_imul h (nI (x * 12)) dX1_becomeSwept_130 (pk_mul x 12) ?_
                  refine hv_iload h dX1_becomeSwept_131 1 rfl ?_
                  refine hw_iadd h (nI ((x * 12) + y)) dX1_becomeSwept_133 (nI_add (x * 12) y) ?_
                  refine hv_iload h dX1_becomeSwept_134 0 rfl ?_
                  refine hv_iast (ws' := (ws.set qa (a, .inl (cI, 144, .inl (upd F2 ((x * 12) + y) (hx_col f2 (nI x) w0)))))) h qa 0 (hs_got ha) rfl (vp_in_nI (by omega) (by decide)) dX1_becomeSwept_136 (by rw [nI_clamp (by omega), List.set_set]) ?_
                  refine hv_iinc h (nI (y + 1)) [(8, .int (nI (y + 1))), (9, .int (hx_col f2 (nI x) w0)), (7, .int (nI x)), (6, .int (hx_span b0 b1)), (0, .ref k), (1, .ref k2), (2, .int ax), (3, .int w0), (4, .int b0), (5, .int b1)] dX1_becomeSwept_137 1 rfl (hs_inc _) (by decide) rfl ?_
                  refine hv_goto h 22 dX1_becomeSwept_140 rfl ?_
                  refine hs_pick (lv' := [(8, .int (nI (y + 1))), (7, .int (nI x)), (6, .int (hx_span b0 b1)), (0, .ref k), (1, .ref k2), (2, .int ax), (3, .int w0), (4, .int b0), (5, .int b1)]) [0, 2, 3, 4, 5, 6, 7, 8, 9] rfl ?_
                  exact ih22 (y + 1) (by omega) _ (by rw [hx_it_s, ← e_F2]; try first | assumption | with_reducible rfl | (simp [hx_sw, c16, c26, c30, c65, c72, c79]; done))
          · refine hv_iload h dX1_becomeSwept_33 1 rfl ?_
            refine hv_iload h dX1_becomeSwept_35 7 rfl ?_
            refine hv_icmp_lt h 57 dX1_becomeSwept_37 rfl (fun c37 => ?_) (fun c37 => ?_)
            · refine hv_iconst h (0) dX1_becomeSwept_57 (by decide) ?_
              refine hv_istore h [(9, .int 0), (8, .int (nI y)), (7, .int (nI x)), (6, .int (hx_span b0 b1)), (0, .ref k), (1, .ref k2), (2, .int ax), (3, .int w0), (4, .int b0), (5, .int b1)] dX1_becomeSwept_58 (by decide) rfl ?_
              refine hv_goto h 122 dX1_becomeSwept_60 rfl ?_
              refine hv_aload_n h dX1_becomeSwept_122 4 rfl rfl ?_
              refine hv_get (C := RX1) (T := TX1) (N := 1) h q (hs_oth n0 hk) rfl 0 (by decide) wu_X1 w_fieldLink_X1_9 (fun _ h9 => h9) rfl dX1_becomeSwept_123 ?_
              refine hv_iload h dX1_becomeSwept_126 2 rfl ?_
              refine hv_bipush h (12) dX1_becomeSwept_128 (by decide) ?_
              refine hw_imul h (nI (x * 12)) dX1_becomeSwept_130 (pk_mul x 12) ?_
              refine hv_iload h dX1_becomeSwept_131 1 rfl ?_
              refine hw_iadd h (nI ((x * 12) + y)) dX1_becomeSwept_133 (nI_add (x * 12) y) ?_
              refine hv_iload h dX1_becomeSwept_134 0 rfl ?_
              refine hv_iast (ws' := (ws.set qa (a, .inl (cI, 144, .inl (upd F2 ((x * 12) + y) 0))))) h qa 0 (hs_got ha) rfl (vp_in_nI (by omega) (by decide)) dX1_becomeSwept_136 (by rw [nI_clamp (by omega), List.set_set]) ?_
              refine hv_iinc h (nI (y + 1)) [(8, .int (nI (y + 1))), (9, .int 0), (7, .int (nI x)), (6, .int (hx_span b0 b1)), (0, .ref k), (1, .ref k2), (2, .int ax), (3, .int w0), (4, .int b0), (5, .int b1)] dX1_becomeSwept_137 1 rfl (hs_inc _) (by decide) rfl ?_
              refine hv_goto h 22 dX1_becomeSwept_140 rfl ?_
              refine hs_pick (lv' := [(8, .int (nI (y + 1))), (7, .int (nI x)), (6, .int (hx_span b0 b1)), (0, .ref k), (1, .ref k2), (2, .int ax), (3, .int w0), (4, .int b0), (5, .int b1)]) [0, 2, 3, 4, 5, 6, 7, 8, 9] rfl ?_
              exact ih22 (y + 1) (by omega) _ (by rw [hx_it_s, ← e_F2]; try first | assumption | with_reducible rfl | (simp [hx_sw, c16, c26, c30, c37]; done))
            · refine hv_iload h dX1_becomeSwept_40 1 rfl ?_
              refine hv_iload h dX1_becomeSwept_42 8 rfl ?_
              refine hv_icmp_gt h 57 dX1_becomeSwept_44 rfl (fun c44 => ?_) (fun c44 => ?_)
              · refine hv_iconst h (0) dX1_becomeSwept_57 (by decide) ?_
                refine hv_istore h [(9, .int 0), (8, .int (nI y)), (7, .int (nI x)), (6, .int (hx_span b0 b1)), (0, .ref k), (1, .ref k2), (2, .int ax), (3, .int w0), (4, .int b0), (5, .int b1)] dX1_becomeSwept_58 (by decide) rfl ?_
                refine hv_goto h 122 dX1_becomeSwept_60 rfl ?_
                refine hv_aload_n h dX1_becomeSwept_122 4 rfl rfl ?_
                refine hv_get (C := RX1) (T := TX1) (N := 1) h q (hs_oth n0 hk) rfl 0 (by decide) wu_X1 w_fieldLink_X1_9 (fun _ h9 => h9) rfl dX1_becomeSwept_123 ?_
                refine hv_iload h dX1_becomeSwept_126 2 rfl ?_
                refine hv_bipush h (12) dX1_becomeSwept_128 (by decide) ?_
                refine hw_imul h (nI (x * 12)) dX1_becomeSwept_130 (pk_mul x 12) ?_
                refine hv_iload h dX1_becomeSwept_131 1 rfl ?_
                refine hw_iadd h (nI ((x * 12) + y)) dX1_becomeSwept_133 (nI_add (x * 12) y) ?_
                refine hv_iload h dX1_becomeSwept_134 0 rfl ?_
                refine hv_iast (ws' := (ws.set qa (a, .inl (cI, 144, .inl (upd F2 ((x * 12) + y) 0))))) h qa 0 (hs_got ha) rfl (vp_in_nI (by omega) (by decide)) dX1_becomeSwept_136 (by rw [nI_clamp (by omega), List.set_set]) ?_
                refine hv_iinc h (nI (y + 1)) [(8, .int (nI (y + 1))), (9, .int 0), (7, .int (nI x)), (6, .int (hx_span b0 b1)), (0, .ref k), (1, .ref k2), (2, .int ax), (3, .int w0), (4, .int b0), (5, .int b1)] dX1_becomeSwept_137 1 rfl (hs_inc _) (by decide) rfl ?_
                refine hv_goto h 22 dX1_becomeSwept_140 rfl ?_
                refine hs_pick (lv' := [(8, .int (nI (y + 1))), (7, .int (nI x)), (6, .int (hx_span b0 b1)), (0, .ref k), (1, .ref k2), (2, .int ax), (3, .int w0), (4, .int b0), (5, .int b1)]) [0, 2, 3, 4, 5, 6, 7, 8, 9] rfl ?_
                exact ih22 (y + 1) (by omega) _ (by rw [hx_it_s, ← e_F2]; try first | assumption | with_reducible rfl | (simp [hx_sw, c16, c26, c30, c37, c44]; done))
              · refine hv_aload_n h dX1_becomeSwept_47 4 rfl rfl ?_
                refine hv_iload_n h dX1_becomeSwept_48 6 rfl rfl ?_
                refine hv_iload h dX1_becomeSwept_49 0 rfl ?_
                refine hv_callp (ws' := (ws.set qa (a, .inl (cI, 144, .inl F2)))) (v := hx_col f2 w0 (nI y)) h (hr_Vi (n := 2) (rest := []) h q2 (hs_oth n2 hk2) rfl (k_X1_column l D cI cC (ws.set qa (a, .inl (cI, 144, .inl F2))) q2 q2a k2 a2 f2 (hs_oth n2 hk2) (hs_oth n2a ha2) w0 (nI y)) w_methodLink_X1_19 w_instanceMethod_X1_column w_selects_X1_column w_initialized_X1 w_code_X1_column (by decide +kernel) rfl rfl rfl ⟨by decide, by decide⟩ rfl (Nat.le_of_ble_eq_true rfl) ⟨Nat.zero_le _, Nat.zero_le _⟩ dX1_becomeSwept_51) ?_
                refine hv_goto h 58 dX1_becomeSwept_54 rfl ?_
                refine hv_istore h [(9, .int (hx_col f2 w0 (nI y))), (8, .int (nI y)), (7, .int (nI x)), (6, .int (hx_span b0 b1)), (0, .ref k), (1, .ref k2), (2, .int ax), (3, .int w0), (4, .int b0), (5, .int b1)] dX1_becomeSwept_58 (by decide) rfl ?_
                refine hv_goto h 122 dX1_becomeSwept_60 rfl ?_
                refine hv_aload_n h dX1_becomeSwept_122 4 rfl rfl ?_
                refine hv_get (C := RX1) (T := TX1) (N := 1) h q (hs_oth n0 hk) rfl 0 (by decide) wu_X1 w_fieldLink_X1_9 (fun _ h9 => h9) rfl dX1_becomeSwept_123 ?_
                refine hv_iload h dX1_becomeSwept_126 2 rfl ?_
                refine hv_bipush h (12) dX1_becomeSwept_128 (by decide) ?_
                refine hw_imul h (nI (x * 12)) dX1_becomeSwept_130 (pk_mul x 12) ?_
                refine hv_iload h dX1_becomeSwept_131 1 rfl ?_
                refine hw_iadd h (nI ((x * 12) + y)) dX1_becomeSwept_133 (nI_add (x * 12) y) ?_
                refine hv_iload h dX1_becomeSwept_134 0 rfl ?_
                refine hv_iast (ws' := (ws.set qa (a, .inl (cI, 144, .inl (upd F2 ((x * 12) + y) (hx_col f2 w0 (nI y))))))) h qa 0 (hs_got ha) rfl (vp_in_nI (by omega) (by decide)) dX1_becomeSwept_136 (by rw [nI_clamp (by omega), List.set_set]) ?_
                refine hv_iinc h (nI (y + 1)) [(8, .int (nI (y + 1))), (9, .int (hx_col f2 w0 (nI y))), (7, .int (nI x)), (6, .int (hx_span b0 b1)), (0, .ref k), (1, .ref k2), (2, .int ax), (3, .int w0), (4, .int b0), (5, .int b1)] dX1_becomeSwept_137 1 rfl (hs_inc _) (by decide) rfl ?_
                refine hv_goto h 22 dX1_becomeSwept_140 rfl ?_
                refine hs_pick (lv' := [(8, .int (nI (y + 1))), (7, .int (nI x)), (6, .int (hx_span b0 b1)), (0, .ref k), (1, .ref k2), (2, .int ax), (3, .int w0), (4, .int b0), (5, .int b1)]) [0, 2, 3, 4, 5, 6, 7, 8, 9] rfl ?_
                exact ih22 (y + 1) (by omega) _ (by rw [hx_it_s, ← e_F2]; try first | assumption | with_reducible rfl | (simp [hx_sw, c16, c26, c30, c37, c44]; done))
      exact L22 12 0 (by omega) _ rfl
  exact L12 12 0 (by omega) _ rfl
