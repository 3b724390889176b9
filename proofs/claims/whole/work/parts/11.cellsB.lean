abbrev rX1_countSides : Room := { frames := 2, cells := 0, slots := 0, locals := 42 }
set_option maxHeartbeats 1000000 in
set_option maxRecDepth 100000 in
theorem k_X1_countSides (l : Launch) (D : va_G) (cI cC : ClassId) (ws : va_W) (q qa k a : Nat) (f : Nat → Int32) (hk : ws[q]? = some (k, .inr (hsCi, [.ref a]))) (ha : ws[qa]? = some (a, .inl (cI, 144, .inl f)))  : hsI l yX1_countSides wsX1_countSides rX1_countSides D vwCl (hsT cI cC) [.ref k] ws (fun r w => r = hx_sides f ∧ w = ws) := by
  refine hsI.enter (cc := cX1_countSides) (maxL := 5) (ret := (some .int)) (by decide) rfl (Nat.le_of_ble_eq_true rfl) ?_
  intro Pg En Ss Mi Ar Be Me Co AA QQ hQ h hr hlk
  refine hs_lv (lv' := [(0, .ref k)]) rfl ?_
  refine hv_iconst h (0) dX1_countSides_0 (by decide) ?_
  refine hv_istore_n h [(1, .int 0), (0, .ref k)] dX1_countSides_1 rfl (by decide) rfl ?_
  refine hv_iconst h (nI 0) dX1_countSides_2 (by decide) ?_
  refine hv_istore_n h [(2, .int (nI 0)), (1, .int 0), (0, .ref k)] dX1_countSides_3 rfl (by decide) rfl ?_
  have L4 : ∀ d4 x : Nat, x + d4 = 13 → ∀ (b1 : Int32), b1 = hx_it (fun x n => hx_it (fun y n => hx_side1 f (nI x) (nI y) n) 13 n) x 0 → hsV Pg l En rX1_countSides Ss Mi Ar Be Me Co QQ 5 D vwCl AA Ss.heap 0 0 4 [(2, .int (nI x)), (1, .int b1), (0, .ref k)] ws [] := by
    intro d4
    induction d4 with
    | zero =>
      intro x kq4 b1 e_b1
      obtain rfl : x = 13 := by omega
      refine hv_iload_n h dX1_countSides_4 0 rfl rfl ?_
      refine hv_bipush h (nI 12) dX1_countSides_5 (by decide) ?_
      refine hv_icmp_gt h 85 dX1_countSides_7 rfl (fun c7 => ?_) (fun hc => absurd (nI_lt (by decide) (by decide)) hc)
      refine hv_iload_n h dX1_countSides_85 1 rfl rfl ?_
      exact hv_iret h hr hlk hQ dX1_countSides_86 ⟨(by rw [e_b1]; rfl), rfl⟩
    | succ d4 ih4 =>
      intro x kq4 b1 e_b1
      have hlt4 : x < 13 := by omega
      refine hv_iload_n h dX1_countSides_4 0 rfl rfl ?_
      refine hv_bipush h (nI 12) dX1_countSides_5 (by decide) ?_
      refine hv_icmp_gt h 85 dX1_countSides_7 rfl (fun hc => absurd hc (nI_nlt (Nat.le_of_lt_succ hlt4) (by decide))) (fun c7 => ?_)
      refine hv_iconst h (nI 0) dX1_countSides_10 (by decide) ?_
      refine hv_istore_n h [(3, .int (nI 0)), (2, .int (nI x)), (1, .int b1), (0, .ref k)] dX1_countSides_11 rfl (by decide) rfl ?_
      have L12 : ∀ d12 y : Nat, y + d12 = 13 → ∀ (b2 : Int32), b2 = hx_it (fun y n => hx_side1 f (nI x) (nI y) n) y b1 → hsV Pg l En rX1_countSides Ss Mi Ar Be Me Co QQ 5 D vwCl AA Ss.heap 0 0 12 [(3, .int (nI y)), (2, .int (nI x)), (1, .int b2), (0, .ref k)] ws [] := by
        intro d12
        induction d12 with
        | zero =>
          intro y kq12 b2 e_b2
          obtain rfl : y = 13 := by omega
          refine hv_iload_n h dX1_countSides_12 0 rfl rfl ?_
          refine hv_bipush h (nI 12) dX1_countSides_13 (by decide) ?_
          refine hv_icmp_gt h 79 dX1_countSides_15 rfl (fun c15 => ?_) (fun hc => absurd (nI_lt (by decide) (by decide)) hc)
          refine hv_iinc h (nI (x + 1)) [(2, .int (nI (x + 1))), (3, .int (nI 13)), (1, .int b2), (0, .ref k)] dX1_countSides_79 1 rfl (hs_inc _) (by decide) rfl ?_
          refine hv_goto h 4 dX1_countSides_82 rfl ?_
          refine hs_pick (lv' := [(2, .int (nI (x + 1))), (1, .int b2), (0, .ref k)]) [0, 2, 3] rfl ?_
          exact ih4 (x + 1) (by omega) _ (by rw [hx_it_s, ← e_b1]; try first | assumption | with_reducible rfl | (simp [c7, c15]; done))
        | succ d12 ih12 =>
          intro y kq12 b2 e_b2
          have hlt12 : y < 13 := by omega
          refine hv_iload_n h dX1_countSides_12 0 rfl rfl ?_
          refine hv_bipush h (nI 12) dX1_countSides_13 (by decide) ?_
          refine hv_icmp_gt h 79 dX1_countSides_15 rfl (fun hc => absurd hc (nI_nlt (Nat.le_of_lt_succ hlt12) (by decide))) (fun c15 => ?_)
          refine hv_aload_n h dX1_countSides_18 3 rfl rfl ?_
          refine hv_iload_n h dX1_countSides_19 1 rfl rfl ?_
          refine hv_iload_n h dX1_countSides_20 0 rfl rfl ?_
          refine hv_callp (ws' := ws) (v := hx_col f (nI x) (nI y)) h (hr_Vi (n := 2) (rest := []) h q hk rfl (k_X1_column l D cI cC ws q qa k a f hk ha (nI x) (nI y)) w_methodLink_X1_19 w_instanceMethod_X1_column w_selects_X1_column w_initialized_X1 w_code_X1_column (by decide +kernel) rfl rfl rfl ⟨by decide, by decide⟩ rfl (Nat.le_of_ble_eq_true rfl) ⟨Nat.zero_le _, Nat.zero_le _⟩ dX1_countSides_21) ?_
          refine hv_istore h [(4, .int (hx_col f (nI x) (nI y))), (3, .int (nI y)), (2, .int (nI x)), (1, .int b2), (0, .ref k)] dX1_countSides_24 (by decide) rfl ?_
          refine hv_iload_n h dX1_countSides_26 3 rfl rfl ?_
          refine hv_iload h dX1_countSides_27 0 rfl ?_
          refine hv_aload_n h dX1_countSides_29 4 rfl rfl ?_
          refine hv_iload_n h dX1_countSides_30 2 rfl rfl ?_
          refine hv_iconst h (1) dX1_countSides_31 (by decide) ?_
          refine hv_isub h dX1_countSides_32 ?_
          refine hv_iload_n h dX1_countSides_33 1 rfl rfl ?_
          refine hv_callp (ws' := ws) (v := hx_col f ((nI x) - 1) (nI y)) h (hr_Vi (n := 2) (rest := [.int (hx_col f (nI x) (nI y)), .int b2]) h q hk rfl (k_X1_column l D cI cC ws q qa k a f hk ha ((nI x) - 1) (nI y)) w_methodLink_X1_19 w_instanceMethod_X1_column w_selects_X1_column w_initialized_X1 w_code_X1_column (by decide +kernel) rfl rfl rfl ⟨by decide, by decide⟩ rfl (Nat.le_of_ble_eq_true rfl) ⟨Nat.zero_le _, Nat.zero_le _⟩ dX1_countSides_34) ?_
          refine hv_ixor h dX1_countSides_37 ?_
          refine hv_callp (ws' := ws) (v := hj_bc ((hx_col f (nI x) (nI y)) ^^^ (hx_col f ((nI x) - 1) (nI y)))) h (hr_Si (n := 1) (rest := [.int b2]) h (k_X5_bitCount l D cI cC ws ((hx_col f (nI x) (nI y)) ^^^ (hx_col f ((nI x) - 1) (nI y)))) w_methodLink_X1_40 w_static_X5_bitCount w_initialized_X5 w_code_X5_bitCount (by decide +kernel) rfl rfl rfl ⟨by decide, by decide⟩ rfl (Nat.le_of_ble_eq_true rfl) ⟨Nat.zero_le _, Nat.zero_le _⟩ dX1_countSides_38) ?_
          refine hv_iadd h dX1_countSides_41 ?_
          refine hv_istore_n h [(1, .int (b2 + (hj_bc ((hx_col f (nI x) (nI y)) ^^^ (hx_col f ((nI x) - 1) (nI y)))))), (4, .int (hx_col f (nI x) (nI y))), (3, .int (nI y)), (2, .int (nI x)), (0, .ref k)] dX1_countSides_42 rfl (by decide) rfl ?_
          refine hv_iload_n h dX1_countSides_43 0 rfl rfl ?_
          refine hv_iload h dX1_countSides_44 1 rfl ?_
          refine hv_aload_n h dX1_countSides_46 4 rfl rfl ?_
          refine hv_iload_n h dX1_countSides_47 3 rfl rfl ?_
          refine hv_iload_n h dX1_countSides_48 2 rfl rfl ?_
          refine hv_iconst h (1) dX1_countSides_49 (by decide) ?_
          refine hv_isub h dX1_countSides_50 ?_
          refine hv_callp (ws' := ws) (v := hx_col f (nI x) ((nI y) - 1)) h (hr_Vi (n := 2) (rest := [.int (hx_col f (nI x) (nI y)), .int (b2 + (hj_bc ((hx_col f (nI x) (nI y)) ^^^ (hx_col f ((nI x) - 1) (nI y)))))]) h q hk rfl (k_X1_column l D cI cC ws q qa k a f hk ha (nI x) ((nI y) - 1)) w_methodLink_X1_19 w_instanceMethod_X1_column w_selects_X1_column w_initialized_X1 w_code_X1_column (by decide +kernel) rfl rfl rfl ⟨by decide, by decide⟩ rfl (Nat.le_of_ble_eq_true rfl) ⟨Nat.zero_le _, Nat.zero_le _⟩ dX1_countSides_51) ?_
          refine hv_ixor h dX1_countSides_54 ?_
          refine hv_callp (ws' := ws) (v := hj_bc ((hx_col f (nI x) (nI y)) ^^^ (hx_col f (nI x) ((nI y) - 1)))) h (hr_Si (n := 1) (rest := [.int (b2 + (hj_bc ((hx_col f (nI x) (nI y)) ^^^ (hx_col f ((nI x) - 1) (nI y)))))]) h (k_X5_bitCount l D cI cC ws ((hx_col f (nI x) (nI y)) ^^^ (hx_col f (nI x) ((nI y) - 1)))) w_methodLink_X1_40 w_static_X5_bitCount w_initialized_X5 w_code_X5_bitCount (by decide +kernel) rfl rfl rfl ⟨by decide, by decide⟩ rfl (Nat.le_of_ble_eq_true rfl) ⟨Nat.zero_le _, Nat.zero_le _⟩ dX1_countSides_55) ?_
          refine hv_iadd h dX1_countSides_58 ?_
          refine hv_istore_n h [(1, .int ((b2 + (hj_bc ((hx_col f (nI x) (nI y)) ^^^ (hx_col f ((nI x) - 1) (nI y))))) + (hj_bc ((hx_col f (nI x) (nI y)) ^^^ (hx_col f (nI x) ((nI y) - 1)))))), (4, .int (hx_col f (nI x) (nI y))), (3, .int (nI y)), (2, .int (nI x)), (0, .ref k)] dX1_countSides_59 rfl (by decide) rfl ?_
          refine hv_iload_n h dX1_countSides_60 0 rfl rfl ?_
          refine hv_iload h dX1_countSides_61 1 rfl ?_
          refine hv_iload h dX1_countSides_63 1 rfl ?_
          refine hv_iconst h (1) dX1_countSides_65 (by decide) ?_
          refine hv_ishl h dX1_countSides_66 ?_
          refine hv_ixor h dX1_countSides_67 ?_
          refine hv_callp (ws' := ws) (v := hj_bc ((hx_col f (nI x) (nI y)) ^^^ ((hx_col f (nI x) (nI y)) <<< ((1 : Int32) &&& 31)))) h (hr_Si (n := 1) (rest := [.int ((b2 + (hj_bc ((hx_col f (nI x) (nI y)) ^^^ (hx_col f ((nI x) - 1) (nI y))))) + (hj_bc ((hx_col f (nI x) (nI y)) ^^^ (hx_col f (nI x) ((nI y) - 1)))))]) h (k_X5_bitCount l D cI cC ws ((hx_col f (nI x) (nI y)) ^^^ ((hx_col f (nI x) (nI y)) <<< ((1 : Int32) &&& 31)))) w_methodLink_X1_40 w_static_X5_bitCount w_initialized_X5 w_code_X5_bitCount (by decide +kernel) rfl rfl rfl ⟨by decide, by decide⟩ rfl (Nat.le_of_ble_eq_true rfl) ⟨Nat.zero_le _, Nat.zero_le _⟩ dX1_countSides_68) ?_
          refine hv_iadd h dX1_countSides_71 ?_
          refine hv_istore_n h [(1, .int (((b2 + (hj_bc ((hx_col f (nI x) (nI y)) ^^^ (hx_col f ((nI x) - 1) (nI y))))) + (hj_bc ((hx_col f (nI x) (nI y)) ^^^ (hx_col f (nI x) ((nI y) - 1))))) + (hj_bc ((hx_col f (nI x) (nI y)) ^^^ ((hx_col f (nI x) (nI y)) <<< ((1 : Int32) &&& 31)))))), (4, .int (hx_col f (nI x) (nI y))), (3, .int (nI y)), (2, .int (nI x)), (0, .ref k)] dX1_countSides_72 rfl (by decide) rfl ?_
          refine hv_iinc h (nI (y + 1)) [(3, .int (nI (y + 1))), (1, .int (((b2 + (hj_bc ((hx_col f (nI x) (nI y)) ^^^ (hx_col f ((nI x) - 1) (nI y))))) + (hj_bc ((hx_col f (nI x) (nI y)) ^^^ (hx_col f (nI x) ((nI y) - 1))))) + (hj_bc ((hx_col f (nI x) (nI y)) ^^^ ((hx_col f (nI x) (nI y)) <<< ((1 : Int32) &&& 31)))))), (4, .int (hx_col f (nI x) (nI y))), (2, .int (nI x)), (0, .ref k)] dX1_countSides_73 2 rfl (hs_inc _) (by decide) rfl ?_
          refine hv_goto h 12 dX1_countSides_76 rfl ?_
          refine hs_pick (lv' := [(3, .int (nI (y + 1))), (2, .int (nI x)), (1, .int (((b2 + (hj_bc ((hx_col f (nI x) (nI y)) ^^^ (hx_col f ((nI x) - 1) (nI y))))) + (hj_bc ((hx_col f (nI x) (nI y)) ^^^ (hx_col f (nI x) ((nI y) - 1))))) + (hj_bc ((hx_col f (nI x) (nI y)) ^^^ ((hx_col f (nI x) (nI y)) <<< ((1 : Int32) &&& 31)))))), (0, .ref k)]) [0, 3, 1, 4] rfl ?_
          exact ih12 (y + 1) (by omega) _ (by rw [hx_it_s, ← e_b2]; try first | assumption | with_reducible rfl | (simp [hx_side1, c7, c15]; done))
      exact L12 13 0 (by omega) _ rfl
  exact L4 13 0 (by omega) _ rfl
abbrev rX1_countEdges : Room := { frames := 2, cells := 0, slots := 0, locals := 44 }
set_option maxHeartbeats 1000000 in
set_option maxRecDepth 100000 in
theorem k_X1_countEdges (l : Launch) (D : va_G) (cI cC : ClassId) (ws : va_W) (q qa k a : Nat) (f : Nat → Int32) (hk : ws[q]? = some (k, .inr (hsCi, [.ref a]))) (ha : ws[qa]? = some (a, .inl (cI, 144, .inl f)))  : hsI l yX1_countEdges wsX1_countEdges rX1_countEdges D vwCl (hsT cI cC) [.ref k] ws (fun r w => r = hx_edges f ∧ w = ws) := by
  refine hsI.enter (cc := cX1_countEdges) (maxL := 8) (ret := (some .int)) (by decide) rfl (Nat.le_of_ble_eq_true rfl) ?_
  intro Pg En Ss Mi Ar Be Me Co AA QQ hQ h hr hlk
  refine hs_lv (lv' := [(0, .ref k)]) rfl ?_
  refine hv_iconst h (0) dX1_countEdges_0 (by decide) ?_
  refine hv_istore_n h [(1, .int 0), (0, .ref k)] dX1_countEdges_1 rfl (by decide) rfl ?_
  refine hv_iconst h (nI 0) dX1_countEdges_2 (by decide) ?_
  refine hv_istore_n h [(2, .int (nI 0)), (1, .int 0), (0, .ref k)] dX1_countEdges_3 rfl (by decide) rfl ?_
  have L4 : ∀ d4 x : Nat, x + d4 = 13 → ∀ (b1 : Int32), b1 = hx_it (fun x n => hx_it (fun y n => hx_edge1 f (nI x) (nI y) n) 13 n) x 0 → hsV Pg l En rX1_countEdges Ss Mi Ar Be Me Co QQ 8 D vwCl AA Ss.heap 0 0 4 [(2, .int (nI x)), (1, .int b1), (0, .ref k)] ws [] := by
    intro d4
    induction d4 with
    | zero =>
      intro x kq4 b1 e_b1
      obtain rfl : x = 13 := by omega
      refine hv_iload_n h dX1_countEdges_4 0 rfl rfl ?_
      refine hv_bipush h (nI 12) dX1_countEdges_5 (by decide) ?_
      refine hv_icmp_gt h 113 dX1_countEdges_7 rfl (fun c7 => ?_) (fun hc => absurd (nI_lt (by decide) (by decide)) hc)
      refine hv_iload_n h dX1_countEdges_113 1 rfl rfl ?_
      exact hv_iret h hr hlk hQ dX1_countEdges_114 ⟨(by rw [e_b1]; rfl), rfl⟩
    | succ d4 ih4 =>
      intro x kq4 b1 e_b1
      have hlt4 : x < 13 := by omega
      refine hv_iload_n h dX1_countEdges_4 0 rfl rfl ?_
      refine hv_bipush h (nI 12) dX1_countEdges_5 (by decide) ?_
      refine hv_icmp_gt h 113 dX1_countEdges_7 rfl (fun hc => absurd hc (nI_nlt (Nat.le_of_lt_succ hlt4) (by decide))) (fun c7 => ?_)
      refine hv_iconst h (nI 0) dX1_countEdges_10 (by decide) ?_
      refine hv_istore_n h [(3, .int (nI 0)), (2, .int (nI x)), (1, .int b1), (0, .ref k)] dX1_countEdges_11 rfl (by decide) rfl ?_
      have L12 : ∀ d12 y : Nat, y + d12 = 13 → ∀ (b2 : Int32), b2 = hx_it (fun y n => hx_edge1 f (nI x) (nI y) n) y b1 → hsV Pg l En rX1_countEdges Ss Mi Ar Be Me Co QQ 8 D vwCl AA Ss.heap 0 0 12 [(3, .int (nI y)), (2, .int (nI x)), (1, .int b2), (0, .ref k)] ws [] := by
        intro d12
        induction d12 with
        | zero =>
          intro y kq12 b2 e_b2
          obtain rfl : y = 13 := by omega
          refine hv_iload_n h dX1_countEdges_12 0 rfl rfl ?_
          refine hv_bipush h (nI 12) dX1_countEdges_13 (by decide) ?_
          refine hv_icmp_gt h 107 dX1_countEdges_15 rfl (fun c15 => ?_) (fun hc => absurd (nI_lt (by decide) (by decide)) hc)
          refine hv_iinc h (nI (x + 1)) [(2, .int (nI (x + 1))), (3, .int (nI 13)), (1, .int b2), (0, .ref k)] dX1_countEdges_107 1 rfl (hs_inc _) (by decide) rfl ?_
          refine hv_goto h 4 dX1_countEdges_110 rfl ?_
          refine hs_pick (lv' := [(2, .int (nI (x + 1))), (1, .int b2), (0, .ref k)]) [0, 2, 3] rfl ?_
          exact ih4 (x + 1) (by omega) _ (by rw [hx_it_s, ← e_b1]; try first | assumption | with_reducible rfl | (simp [c7, c15]; done))
        | succ d12 ih12 =>
          intro y kq12 b2 e_b2
          have hlt12 : y < 13 := by omega
          refine hv_iload_n h dX1_countEdges_12 0 rfl rfl ?_
          refine hv_bipush h (nI 12) dX1_countEdges_13 (by decide) ?_
          refine hv_icmp_gt h 107 dX1_countEdges_15 rfl (fun hc => absurd hc (nI_nlt (Nat.le_of_lt_succ hlt12) (by decide))) (fun c15 => ?_)
          refine hv_aload_n h dX1_countEdges_18 3 rfl rfl ?_
          refine hv_iload_n h dX1_countEdges_19 1 rfl rfl ?_
          refine hv_iload_n h dX1_countEdges_20 0 rfl rfl ?_
          refine hv_callp (ws' := ws) (v := hx_col f (nI x) (nI y)) h (hr_Vi (n := 2) (rest := []) h q hk rfl (k_X1_column l D cI cC ws q qa k a f hk ha (nI x) (nI y)) w_methodLink_X1_19 w_instanceMethod_X1_column w_selects_X1_column w_initialized_X1 w_code_X1_column (by decide +kernel) rfl rfl rfl ⟨by decide, by decide⟩ rfl (Nat.le_of_ble_eq_true rfl) ⟨Nat.zero_le _, Nat.zero_le _⟩ dX1_countEdges_21) ?_
          refine hv_istore h [(4, .int (hx_col f (nI x) (nI y))), (3, .int (nI y)), (2, .int (nI x)), (1, .int b2), (0, .ref k)] dX1_countEdges_24 (by decide) rfl ?_
          refine hv_aload_n h dX1_countEdges_26 4 rfl rfl ?_
          refine hv_iload_n h dX1_countEdges_27 2 rfl rfl ?_
          refine hv_iconst h (1) dX1_countEdges_28 (by decide) ?_
          refine hv_isub h dX1_countEdges_29 ?_
          refine hv_iload_n h dX1_countEdges_30 1 rfl rfl ?_
          refine hv_callp (ws' := ws) (v := hx_col f ((nI x) - 1) (nI y)) h (hr_Vi (n := 2) (rest := []) h q hk rfl (k_X1_column l D cI cC ws q qa k a f hk ha ((nI x) - 1) (nI y)) w_methodLink_X1_19 w_instanceMethod_X1_column w_selects_X1_column w_initialized_X1 w_code_X1_column (by decide +kernel) rfl rfl rfl ⟨by decide, by decide⟩ rfl (Nat.le_of_ble_eq_true rfl) ⟨Nat.zero_le _, Nat.zero_le _⟩ dX1_countEdges_31) ?_
          refine hv_istore h [(5, .int (hx_col f ((nI x) - 1) (nI y))), (4, .int (hx_col f (nI x) (nI y))), (3, .int (nI y)), (2, .int (nI x)), (1, .int b2), (0, .ref k)] dX1_countEdges_34 (by decide) rfl ?_
          refine hv_aload_n h dX1_countEdges_36 5 rfl rfl ?_
          refine hv_iload_n h dX1_countEdges_37 3 rfl rfl ?_
          refine hv_iload_n h dX1_countEdges_38 2 rfl rfl ?_
          refine hv_iconst h (1) dX1_countEdges_39 (by decide) ?_
          refine hv_isub h dX1_countEdges_40 ?_
          refine hv_callp (ws' := ws) (v := hx_col f (nI x) ((nI y) - 1)) h (hr_Vi (n := 2) (rest := []) h q hk rfl (k_X1_column l D cI cC ws q qa k a f hk ha (nI x) ((nI y) - 1)) w_methodLink_X1_19 w_instanceMethod_X1_column w_selects_X1_column w_initialized_X1 w_code_X1_column (by decide +kernel) rfl rfl rfl ⟨by decide, by decide⟩ rfl (Nat.le_of_ble_eq_true rfl) ⟨Nat.zero_le _, Nat.zero_le _⟩ dX1_countEdges_41) ?_
          refine hv_istore h [(6, .int (hx_col f (nI x) ((nI y) - 1))), (5, .int (hx_col f ((nI x) - 1) (nI y))), (4, .int (hx_col f (nI x) (nI y))), (3, .int (nI y)), (2, .int (nI x)), (1, .int b2), (0, .ref k)] dX1_countEdges_44 (by decide) rfl ?_
          refine hv_aload_n h dX1_countEdges_46 6 rfl rfl ?_
          refine hv_iload_n h dX1_countEdges_47 4 rfl rfl ?_
          refine hv_iconst h (1) dX1_countEdges_48 (by decide) ?_
          refine hv_isub h dX1_countEdges_49 ?_
          refine hv_iload_n h dX1_countEdges_50 3 rfl rfl ?_
          refine hv_iconst h (1) dX1_countEdges_51 (by decide) ?_
          refine hv_isub h dX1_countEdges_52 ?_
          refine hv_callp (ws' := ws) (v := hx_col f ((nI x) - 1) ((nI y) - 1)) h (hr_Vi (n := 2) (rest := []) h q hk rfl (k_X1_column l D cI cC ws q qa k a f hk ha ((nI x) - 1) ((nI y) - 1)) w_methodLink_X1_19 w_instanceMethod_X1_column w_selects_X1_column w_initialized_X1 w_code_X1_column (by decide +kernel) rfl rfl rfl ⟨by decide, by decide⟩ rfl (Nat.le_of_ble_eq_true rfl) ⟨Nat.zero_le _, Nat.zero_le _⟩ dX1_countEdges_53) ?_
          refine hv_istore h [(7, .int (hx_col f ((nI x) - 1) ((nI y) - 1))), (6, .int (hx_col f (nI x) ((nI y) - 1))), (5, .int (hx_col f ((nI x) - 1) (nI y))), (4, .int (hx_col f (nI x) (nI y))), (3, .int (nI y)), (2, .int (nI x)), (1, .int b2), (0, .ref k)] dX1_countEdges_56 (by decide) rfl ?_
          refine hv_iload_n h dX1_countEdges_58 6 rfl rfl ?_
          refine hv_iload h dX1_countEdges_59 2 rfl ?_
          refine hv_iload h dX1_countEdges_61 3 rfl ?_
          refine hv_callp (ws' := ws) (v := hx_eb (hx_col f ((nI x) - 1) (nI y)) (hx_col f (nI x) (nI y))) h (hr_SNi (n := 2) (rest := [.int b2]) h (k_X0_edgesBetween l D cI cC ws (hx_col f ((nI x) - 1) (nI y)) (hx_col f (nI x) (nI y))) (List.mem_of_getElem? (i := 1) rfl) w_static_X0_edgesBetween w_initialized_X0 w_code_X0_edgesBetween (by decide +kernel) rfl rfl rfl ⟨by decide, by decide⟩ rfl (Nat.le_of_ble_eq_true rfl) ⟨Nat.zero_le _, Nat.zero_le _⟩ dX1_countEdges_63) ?_
          refine hv_callp (ws' := ws) (v := hj_bc (hx_eb (hx_col f ((nI x) - 1) (nI y)) (hx_col f (nI x) (nI y)))) h (hr_Si (n := 1) (rest := [.int b2]) h (k_X5_bitCount l D cI cC ws (hx_eb (hx_col f ((nI x) - 1) (nI y)) (hx_col f (nI x) (nI y)))) w_methodLink_X1_40 w_static_X5_bitCount w_initialized_X5 w_code_X5_bitCount (by decide +kernel) rfl rfl rfl ⟨by decide, by decide⟩ rfl (Nat.le_of_ble_eq_true rfl) ⟨Nat.zero_le _, Nat.zero_le _⟩ dX1_countEdges_66) ?_
          refine hv_iadd h dX1_countEdges_69 ?_
          refine hv_istore_n h [(1, .int (b2 + (hj_bc (hx_eb (hx_col f ((nI x) - 1) (nI y)) (hx_col f (nI x) (nI y)))))), (7, .int (hx_col f ((nI x) - 1) ((nI y) - 1))), (6, .int (hx_col f (nI x) ((nI y) - 1))), (5, .int (hx_col f ((nI x) - 1) (nI y))), (4, .int (hx_col f (nI x) (nI y))), (3, .int (nI y)), (2, .int (nI x)), (0, .ref k)] dX1_countEdges_70 rfl (by decide) rfl ?_
          refine hv_iload_n h dX1_countEdges_71 0 rfl rfl ?_
          refine hv_iload h dX1_countEdges_72 2 rfl ?_
          refine hv_iload h dX1_countEdges_74 4 rfl ?_
          refine hv_callp (ws' := ws) (v := hx_eb (hx_col f (nI x) ((nI y) - 1)) (hx_col f (nI x) (nI y))) h (hr_SNi (n := 2) (rest := [.int (b2 + (hj_bc (hx_eb (hx_col f ((nI x) - 1) (nI y)) (hx_col f (nI x) (nI y)))))]) h (k_X0_edgesBetween l D cI cC ws (hx_col f (nI x) ((nI y) - 1)) (hx_col f (nI x) (nI y))) (List.mem_of_getElem? (i := 1) rfl) w_static_X0_edgesBetween w_initialized_X0 w_code_X0_edgesBetween (by decide +kernel) rfl rfl rfl ⟨by decide, by decide⟩ rfl (Nat.le_of_ble_eq_true rfl) ⟨Nat.zero_le _, Nat.zero_le _⟩ dX1_countEdges_76) ?_
          refine hv_callp (ws' := ws) (v := hj_bc (hx_eb (hx_col f (nI x) ((nI y) - 1)) (hx_col f (nI x) (nI y)))) h (hr_Si (n := 1) (rest := [.int (b2 + (hj_bc (hx_eb (hx_col f ((nI x) - 1) (nI y)) (hx_col f (nI x) (nI y)))))]) h (k_X5_bitCount l D cI cC ws (hx_eb (hx_col f (nI x) ((nI y) - 1)) (hx_col f (nI x) (nI y)))) w_methodLink_X1_40 w_static_X5_bitCount w_initialized_X5 w_code_X5_bitCount (by decide +kernel) rfl rfl rfl ⟨by decide, by decide⟩ rfl (Nat.le_of_ble_eq_true rfl) ⟨Nat.zero_le _, Nat.zero_le _⟩ dX1_countEdges_79) ?_
          refine hv_iadd h dX1_countEdges_82 ?_
          refine hv_istore_n h [(1, .int ((b2 + (hj_bc (hx_eb (hx_col f ((nI x) - 1) (nI y)) (hx_col f (nI x) (nI y))))) + (hj_bc (hx_eb (hx_col f (nI x) ((nI y) - 1)) (hx_col f (nI x) (nI y)))))), (7, .int (hx_col f ((nI x) - 1) ((nI y) - 1))), (6, .int (hx_col f (nI x) ((nI y) - 1))), (5, .int (hx_col f ((nI x) - 1) (nI y))), (4, .int (hx_col f (nI x) (nI y))), (3, .int (nI y)), (2, .int (nI x)), (0, .ref k)] dX1_countEdges_83 rfl (by decide) rfl ?_
          refine hv_iload_n h dX1_countEdges_84 0 rfl rfl ?_
          refine hv_iload h dX1_countEdges_85 1 rfl ?_
          refine hv_iload h dX1_countEdges_87 2 rfl ?_
          refine hv_iload h dX1_countEdges_89 3 rfl ?_
          refine hv_iload h dX1_countEdges_91 4 rfl ?_
          refine hv_callp (ws' := ws) (v := hx_ea (hx_col f ((nI x) - 1) ((nI y) - 1)) (hx_col f (nI x) ((nI y) - 1)) (hx_col f ((nI x) - 1) (nI y)) (hx_col f (nI x) (nI y))) h (hr_SNi (n := 4) (rest := [.int ((b2 + (hj_bc (hx_eb (hx_col f ((nI x) - 1) (nI y)) (hx_col f (nI x) (nI y))))) + (hj_bc (hx_eb (hx_col f (nI x) ((nI y) - 1)) (hx_col f (nI x) (nI y)))))]) h (k_X0_edgesAmong l D cI cC ws (hx_col f ((nI x) - 1) ((nI y) - 1)) (hx_col f (nI x) ((nI y) - 1)) (hx_col f ((nI x) - 1) (nI y)) (hx_col f (nI x) (nI y))) (List.mem_of_getElem? (i := 2) rfl) w_static_X0_edgesAmong w_initialized_X0 w_code_X0_edgesAmong (by decide +kernel) rfl rfl rfl ⟨by decide, by decide⟩ rfl (Nat.le_of_ble_eq_true rfl) ⟨Nat.zero_le _, Nat.zero_le _⟩ dX1_countEdges_93) ?_
          refine hv_callp (ws' := ws) (v := hj_bc (hx_ea (hx_col f ((nI x) - 1) ((nI y) - 1)) (hx_col f (nI x) ((nI y) - 1)) (hx_col f ((nI x) - 1) (nI y)) (hx_col f (nI x) (nI y)))) h (hr_Si (n := 1) (rest := [.int ((b2 + (hj_bc (hx_eb (hx_col f ((nI x) - 1) (nI y)) (hx_col f (nI x) (nI y))))) + (hj_bc (hx_eb (hx_col f (nI x) ((nI y) - 1)) (hx_col f (nI x) (nI y)))))]) h (k_X5_bitCount l D cI cC ws (hx_ea (hx_col f ((nI x) - 1) ((nI y) - 1)) (hx_col f (nI x) ((nI y) - 1)) (hx_col f ((nI x) - 1) (nI y)) (hx_col f (nI x) (nI y)))) w_methodLink_X1_40 w_static_X5_bitCount w_initialized_X5 w_code_X5_bitCount (by decide +kernel) rfl rfl rfl ⟨by decide, by decide⟩ rfl (Nat.le_of_ble_eq_true rfl) ⟨Nat.zero_le _, Nat.zero_le _⟩ dX1_countEdges_96) ?_
          refine hv_iadd h dX1_countEdges_99 ?_
          refine hv_istore_n h [(1, .int (((b2 + (hj_bc (hx_eb (hx_col f ((nI x) - 1) (nI y)) (hx_col f (nI x) (nI y))))) + (hj_bc (hx_eb (hx_col f (nI x) ((nI y) - 1)) (hx_col f (nI x) (nI y))))) + (hj_bc (hx_ea (hx_col f ((nI x) - 1) ((nI y) - 1)) (hx_col f (nI x) ((nI y) - 1)) (hx_col f ((nI x) - 1) (nI y)) (hx_col f (nI x) (nI y)))))), (7, .int (hx_col f ((nI x) - 1) ((nI y) - 1))), (6, .int (hx_col f (nI x) ((nI y) - 1))), (5, .int (hx_col f ((nI x) - 1) (nI y))), (4, .int (hx_col f (nI x) (nI y))), (3, .int (nI y)), (2, .int (nI x)), (0, .ref k)] dX1_countEdges_100 rfl (by decide) rfl ?_
          refine hv_iinc h (nI (y + 1)) [(3, .int (nI (y + 1))), (1, .int (((b2 + (hj_bc (hx_eb (hx_col f ((nI x) - 1) (nI y)) (hx_col f (nI x) (nI y))))) + (hj_bc (hx_eb (hx_col f (nI x) ((nI y) - 1)) (hx_col f (nI x) (nI y))))) + (hj_bc (hx_ea (hx_col f ((nI x) - 1) ((nI y) - 1)) (hx_col f (nI x) ((nI y) - 1)) (hx_col f ((nI x) - 1) (nI y)) (hx_col f (nI x) (nI y)))))), (7, .int (hx_col f ((nI x) - 1) ((nI y) - 1))), (6, .int (hx_col f (nI x) ((nI y) - 1))), (5, .int (hx_col f ((nI x) - 1) (nI y))), (4, .int (hx_col f (nI x) (nI y))), (2, .int (nI x)), (0, .ref k)] dX1_countEdges_101 5 rfl (hs_inc _) (by decide) rfl ?_
          refine hv_goto h 12 dX1_countEdges_104 rfl ?_
          refine hs_pick (lv' := [(3, .int (nI (y + 1))), (2, .int (nI x)), (1, .int (((b2 + (hj_bc (hx_eb (hx_col f ((nI x) - 1) (nI y)) (hx_col f (nI x) (nI y))))) + (hj_bc (hx_eb (hx_col f (nI x) ((nI y) - 1)) (hx_col f (nI x) (nI y))))) + (hj_bc (hx_ea (hx_col f ((nI x) - 1) ((nI y) - 1)) (hx_col f (nI x) ((nI y) - 1)) (hx_col f ((nI x) - 1) (nI y)) (hx_col f (nI x) (nI y)))))), (0, .ref k)]) [0, 6, 1, 7] rfl ?_
          exact ih12 (y + 1) (by omega) _ (by rw [hx_it_s, ← e_b2]; try first | assumption | with_reducible rfl | (simp [hx_edge1, c7, c15]; done))
      exact L12 13 0 (by omega) _ rfl
  exact L4 13 0 (by omega) _ rfl
