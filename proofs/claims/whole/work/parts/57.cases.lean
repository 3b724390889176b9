set_option maxHeartbeats 4000000 in
set_option maxRecDepth 100000 in
theorem hl_c_volume {p : Program} {l : Launch} {e : Env} {s : State} {m : MethodId} {below : List Frame} {meth : Method} {c : Code} {Q : State → Prop} {D : va_G} {A : Nat → Prop} {cI cC : ClassId} {b L k : Nat} {H0 : Heap} {xs : Nat → Int32} {g : Nat → Nat} {cols : Nat → Nat → Int32} {sol oth : Nat → Nat} {out : Nat} {num : Nat → Int32} {o d t : Nat} {X : HF} {bi wh : Nat → Int32} {Y : HF} {bo : Bool} {w : Nat → Nat} {S : Nat → Nat → Nat → Int32} (h : hsX p m c code 4 s #[Value.ref b] RXL D vwCl (hsT cI cC) A H0) (hX : va_X b L xs s H0) (hbl : b < H0.size) (hbA : ¬ A b) (hL : L ≤ 4096) (hk : 8 * k + 8 ≤ L) (R : hsRel cols sol oth out num o d t bi wh w S) (K : hlK p l e s m below meth c Q D A H0 cI cC b k g) : hsV p l e room_1 s m #[Value.ref b] below meth c Q 4 D vwCl A H0 53 11171 492 (hlL b k (g 0) (g 8)) (hlW g cI cC cols sol oth out num o d t X bi wh Y bo) [] := by
  have hsol : ∀ i, i < 6 → sol i < 20 := fun i hi => Nat.lt_of_lt_of_le (R.inj.s1 i hi) (by decide)
  refine hv_aload_n h dXL_law_492 2 rfl rfl ?_
  refine hv_arg h hX hbl hbA hL 1 (by decide) (by omega) dXL_law_493 dXL_law_494 dXL_law_495 dXL_law_496 dXL_law_497 ?_
  refine hv_callp h (hr_Vi (n := 1) (rest := []) h 0 rfl rfl (k_X0_volume l D cI cC g cols sol oth out num (nI o) (nI d) (nI t) X.1 X.2.1 (nI X.2.2) (g 8, .inr (hsMi, [.ref (g 9), .int (nI d), .int (nI (d + t)), .ref (g 10), .ref (g 11), .int (nI Y.2.2), .ref (g 12), .int (hx_b bo)])) (g 9, .inl (cI, 4464, .inl bi)) (g 10, .inl (cI, 12, .inl wh)) (g 11, .inl (cI, 144, .inl Y.1)) (g 12, .inl (cI, 1728, .inl Y.2.1)) (xs (8 * k + 1)) hsol) w_methodLink_XL_50 w_instanceMethod_X0_volume w_selects_X0_volume w_initialized_X0 w_code_X0_volume (by decide +kernel) rfl rfl rfl ⟨by decide, by decide⟩ rfl (Nat.le_of_ble_eq_true rfl) ⟨by decide, by decide⟩ dXL_law_498) ?_
  refine hs_ws hl_WM ?_
  refine hv_aload_n h dXL_law_501 1 rfl rfl ?_
  refine hv_arg h hX hbl hbA hL 1 (by decide) (by omega) dXL_law_502 dXL_law_503 dXL_law_504 dXL_law_505 dXL_law_506 ?_
  refine hv_callp h (hr_Vi (n := 1) (rest := [.int _]) h 8 rfl rfl (k_X4_volume l D cI cC _ _ _ _ _ _ _ _ _ g bi wh Y.1 Y.2.1 (nI d) (nI (d + t)) (nI Y.2.2) (hx_b bo) (xs (8 * k + 1))) w_methodLink_XL_54 w_instanceMethod_X4_volume w_selects_X4_volume w_initialized_X4 w_code_X4_volume (by decide +kernel) rfl rfl rfl ⟨by decide, by decide⟩ rfl (Nat.le_of_ble_eq_true rfl) ⟨by decide, by decide⟩ dXL_law_507) ?_
  refine hs_ws hl_WM.symm ?_
  exact hv_icmp_eq h 1051 dXL_law_510 rfl (fun _ => K _ _ _ _ _ _ _ _ X _ _ Y bo _ _ R) (fun q => absurd (hl_volume R (xs (8 * k + 1))) q)
set_option maxHeartbeats 4000000 in
set_option maxRecDepth 100000 in
theorem hl_c_sides {p : Program} {l : Launch} {e : Env} {s : State} {m : MethodId} {below : List Frame} {meth : Method} {c : Code} {Q : State → Prop} {D : va_G} {A : Nat → Prop} {cI cC : ClassId} {b L k : Nat} {H0 : Heap} {xs : Nat → Int32} {g : Nat → Nat} {cols : Nat → Nat → Int32} {sol oth : Nat → Nat} {out : Nat} {num : Nat → Int32} {o d t : Nat} {X : HF} {bi wh : Nat → Int32} {Y : HF} {bo : Bool} {w : Nat → Nat} {S : Nat → Nat → Nat → Int32} (h : hsX p m c code 4 s #[Value.ref b] RXL D vwCl (hsT cI cC) A H0) (hX : va_X b L xs s H0) (hbl : b < H0.size) (hbA : ¬ A b) (hL : L ≤ 4096) (hk : 8 * k + 8 ≤ L) (R : hsRel cols sol oth out num o d t bi wh w S) (K : hlK p l e s m below meth c Q D A H0 cI cC b k g) : hsV p l e room_1 s m #[Value.ref b] below meth c Q 4 D vwCl A H0 53 11171 515 (hlL b k (g 0) (g 8)) (hlW g cI cC cols sol oth out num o d t X bi wh Y bo) [] := by
  have hsol : ∀ i, i < 6 → sol i < 20 := fun i hi => Nat.lt_of_lt_of_le (R.inj.s1 i hi) (by decide)
  refine hv_aload_n h dXL_law_515 2 rfl rfl ?_
  refine hv_arg h hX hbl hbA hL 1 (by decide) (by omega) dXL_law_516 dXL_law_517 dXL_law_518 dXL_law_519 dXL_law_520 ?_
  refine hv_callp h (hr_Vi (n := 1) (rest := []) h 0 rfl rfl (k_X0_sides l D cI cC g cols sol oth out num (nI o) (nI d) (nI t) X.1 X.2.1 (nI X.2.2) (g 8, .inr (hsMi, [.ref (g 9), .int (nI d), .int (nI (d + t)), .ref (g 10), .ref (g 11), .int (nI Y.2.2), .ref (g 12), .int (hx_b bo)])) (g 9, .inl (cI, 4464, .inl bi)) (g 10, .inl (cI, 12, .inl wh)) (g 11, .inl (cI, 144, .inl Y.1)) (g 12, .inl (cI, 1728, .inl Y.2.1)) (xs (8 * k + 1)) hsol) w_methodLink_XL_55 w_instanceMethod_X0_sides w_selects_X0_sides w_initialized_X0 w_code_X0_sides (by decide +kernel) rfl rfl rfl ⟨by decide, by decide⟩ rfl (Nat.le_of_ble_eq_true rfl) ⟨by decide, by decide⟩ dXL_law_521) ?_
  refine hs_ws hl_WM ?_
  refine hv_aload_n h dXL_law_524 1 rfl rfl ?_
  refine hv_arg h hX hbl hbA hL 1 (by decide) (by omega) dXL_law_525 dXL_law_526 dXL_law_527 dXL_law_528 dXL_law_529 ?_
  refine hv_callp h (hr_Vi (n := 1) (rest := [.int _]) h 8 rfl rfl (k_X4_sides l D cI cC _ _ _ _ _ _ _ _ _ g bi wh Y.1 Y.2.1 (nI d) (nI (d + t)) (nI Y.2.2) (hx_b bo) (xs (8 * k + 1))) w_methodLink_XL_58 w_instanceMethod_X4_sides w_selects_X4_sides w_initialized_X4 w_code_X4_sides (by decide +kernel) rfl rfl rfl ⟨by decide, by decide⟩ rfl (Nat.le_of_ble_eq_true rfl) ⟨by decide, by decide⟩ dXL_law_530) ?_
  refine hs_ws hl_WM.symm ?_
  exact hv_icmp_eq h 1051 dXL_law_533 rfl (fun _ => K _ _ _ _ _ _ _ _ X _ _ Y bo _ _ R) (fun q => absurd (hl_sides R (xs (8 * k + 1))) q)
set_option maxHeartbeats 4000000 in
set_option maxRecDepth 100000 in
theorem hl_c_edges {p : Program} {l : Launch} {e : Env} {s : State} {m : MethodId} {below : List Frame} {meth : Method} {c : Code} {Q : State → Prop} {D : va_G} {A : Nat → Prop} {cI cC : ClassId} {b L k : Nat} {H0 : Heap} {xs : Nat → Int32} {g : Nat → Nat} {cols : Nat → Nat → Int32} {sol oth : Nat → Nat} {out : Nat} {num : Nat → Int32} {o d t : Nat} {X : HF} {bi wh : Nat → Int32} {Y : HF} {bo : Bool} {w : Nat → Nat} {S : Nat → Nat → Nat → Int32} (h : hsX p m c code 4 s #[Value.ref b] RXL D vwCl (hsT cI cC) A H0) (hX : va_X b L xs s H0) (hbl : b < H0.size) (hbA : ¬ A b) (hL : L ≤ 4096) (hk : 8 * k + 8 ≤ L) (R : hsRel cols sol oth out num o d t bi wh w S) (K : hlK p l e s m below meth c Q D A H0 cI cC b k g) : hsV p l e room_1 s m #[Value.ref b] below meth c Q 4 D vwCl A H0 53 11171 538 (hlL b k (g 0) (g 8)) (hlW g cI cC cols sol oth out num o d t X bi wh Y bo) [] := by
  have hsol : ∀ i, i < 6 → sol i < 20 := fun i hi => Nat.lt_of_lt_of_le (R.inj.s1 i hi) (by decide)
  refine hv_aload_n h dXL_law_538 2 rfl rfl ?_
  refine hv_arg h hX hbl hbA hL 1 (by decide) (by omega) dXL_law_539 dXL_law_540 dXL_law_541 dXL_law_542 dXL_law_543 ?_
  refine hv_callp h (hr_Vi (n := 1) (rest := []) h 0 rfl rfl (k_X0_edges l D cI cC g cols sol oth out num (nI o) (nI d) (nI t) X.1 X.2.1 (nI X.2.2) (g 8, .inr (hsMi, [.ref (g 9), .int (nI d), .int (nI (d + t)), .ref (g 10), .ref (g 11), .int (nI Y.2.2), .ref (g 12), .int (hx_b bo)])) (g 9, .inl (cI, 4464, .inl bi)) (g 10, .inl (cI, 12, .inl wh)) (g 11, .inl (cI, 144, .inl Y.1)) (g 12, .inl (cI, 1728, .inl Y.2.1)) (xs (8 * k + 1)) hsol) w_methodLink_XL_59 w_instanceMethod_X0_edges w_selects_X0_edges w_initialized_X0 w_code_X0_edges (by decide +kernel) rfl rfl rfl ⟨by decide, by decide⟩ rfl (Nat.le_of_ble_eq_true rfl) ⟨by decide, by decide⟩ dXL_law_544) ?_
  refine hs_ws hl_WM ?_
  refine hv_aload_n h dXL_law_547 1 rfl rfl ?_
  refine hv_arg h hX hbl hbA hL 1 (by decide) (by omega) dXL_law_548 dXL_law_549 dXL_law_550 dXL_law_551 dXL_law_552 ?_
  refine hv_callp h (hr_Vi (n := 1) (rest := [.int _]) h 8 rfl rfl (k_X4_edges l D cI cC _ _ _ _ _ _ _ _ _ g bi wh Y.1 Y.2.1 (nI d) (nI (d + t)) (nI Y.2.2) (hx_b bo) (xs (8 * k + 1))) w_methodLink_XL_62 w_instanceMethod_X4_edges w_selects_X4_edges w_initialized_X4 w_code_X4_edges (by decide +kernel) rfl rfl rfl ⟨by decide, by decide⟩ rfl (Nat.le_of_ble_eq_true rfl) ⟨by decide, by decide⟩ dXL_law_553) ?_
  refine hs_ws hl_WM.symm ?_
  exact hv_icmp_eq h 1051 dXL_law_556 rfl (fun _ => K _ _ _ _ _ _ _ _ X _ _ Y bo _ _ R) (fun q => absurd (hl_edges R (xs (8 * k + 1))) q)
set_option maxHeartbeats 4000000 in
set_option maxRecDepth 100000 in
theorem hl_c_moment {p : Program} {l : Launch} {e : Env} {s : State} {m : MethodId} {below : List Frame} {meth : Method} {c : Code} {Q : State → Prop} {D : va_G} {A : Nat → Prop} {cI cC : ClassId} {b L k : Nat} {H0 : Heap} {xs : Nat → Int32} {g : Nat → Nat} {cols : Nat → Nat → Int32} {sol oth : Nat → Nat} {out : Nat} {num : Nat → Int32} {o d t : Nat} {X : HF} {bi wh : Nat → Int32} {Y : HF} {bo : Bool} {w : Nat → Nat} {S : Nat → Nat → Nat → Int32} (h : hsX p m c code 4 s #[Value.ref b] RXL D vwCl (hsT cI cC) A H0) (hX : va_X b L xs s H0) (hbl : b < H0.size) (hbA : ¬ A b) (hL : L ≤ 4096) (hk : 8 * k + 8 ≤ L) (R : hsRel cols sol oth out num o d t bi wh w S) (K : hlK p l e s m below meth c Q D A H0 cI cC b k g) : hsV p l e room_1 s m #[Value.ref b] below meth c Q 4 D vwCl A H0 53 11171 607 (hlL b k (g 0) (g 8)) (hlW g cI cC cols sol oth out num o d t X bi wh Y bo) [] := by
  have hsol : ∀ i, i < 6 → sol i < 20 := fun i hi => Nat.lt_of_lt_of_le (R.inj.s1 i hi) (by decide)
  refine hv_aload_n h dXL_law_607 2 rfl rfl ?_
  refine hv_arg h hX hbl hbA hL 1 (by decide) (by omega) dXL_law_608 dXL_law_609 dXL_law_610 dXL_law_611 dXL_law_612 ?_
  refine hv_arg h hX hbl hbA hL 2 (by decide) (by omega) dXL_law_613 dXL_law_614 dXL_law_615 dXL_law_616 dXL_law_617 ?_
  refine hv_callp h (hr_Vi (n := 2) (rest := []) h 0 rfl rfl (k_X0_moment l D cI cC g cols sol oth out num (nI o) (nI d) (nI t) X.1 X.2.1 (nI X.2.2) (g 8, .inr (hsMi, [.ref (g 9), .int (nI d), .int (nI (d + t)), .ref (g 10), .ref (g 11), .int (nI Y.2.2), .ref (g 12), .int (hx_b bo)])) (g 9, .inl (cI, 4464, .inl bi)) (g 10, .inl (cI, 12, .inl wh)) (g 11, .inl (cI, 144, .inl Y.1)) (g 12, .inl (cI, 1728, .inl Y.2.1)) (xs (8 * k + 1)) (xs (8 * k + 2)) hsol) w_methodLink_XL_71 w_instanceMethod_X0_moment w_selects_X0_moment w_initialized_X0 w_code_X0_moment (by decide +kernel) rfl rfl rfl ⟨by decide, by decide⟩ rfl (Nat.le_of_ble_eq_true rfl) ⟨by decide, by decide⟩ dXL_law_618) ?_
  refine hs_ws hl_WM ?_
  refine hv_aload_n h dXL_law_621 1 rfl rfl ?_
  refine hv_arg h hX hbl hbA hL 1 (by decide) (by omega) dXL_law_622 dXL_law_623 dXL_law_624 dXL_law_625 dXL_law_626 ?_
  refine hv_arg h hX hbl hbA hL 2 (by decide) (by omega) dXL_law_627 dXL_law_628 dXL_law_629 dXL_law_630 dXL_law_631 ?_
  refine hv_callp h (hr_Vi (n := 2) (rest := [.int _]) h 8 rfl rfl (k_X4_moment l D cI cC _ _ _ _ _ _ _ _ _ g bi wh Y.1 Y.2.1 (nI d) (nI (d + t)) (nI Y.2.2) (hx_b bo) (xs (8 * k + 1)) (xs (8 * k + 2))) w_methodLink_XL_74 w_instanceMethod_X4_moment w_selects_X4_moment w_initialized_X4 w_code_X4_moment (by decide +kernel) rfl rfl rfl ⟨by decide, by decide⟩ rfl (Nat.le_of_ble_eq_true rfl) ⟨by decide, by decide⟩ dXL_law_632) ?_
  refine hs_ws hl_WM.symm ?_
  exact hv_icmp_eq h 1051 dXL_law_635 rfl (fun _ => K _ _ _ _ _ _ _ _ X _ _ Y bo _ _ R) (fun q => absurd (hl_moment R (xs (8 * k + 1)) (xs (8 * k + 2))) q)
set_option maxHeartbeats 4000000 in
set_option maxRecDepth 100000 in
theorem hl_c_extent {p : Program} {l : Launch} {e : Env} {s : State} {m : MethodId} {below : List Frame} {meth : Method} {c : Code} {Q : State → Prop} {D : va_G} {A : Nat → Prop} {cI cC : ClassId} {b L k : Nat} {H0 : Heap} {xs : Nat → Int32} {g : Nat → Nat} {cols : Nat → Nat → Int32} {sol oth : Nat → Nat} {out : Nat} {num : Nat → Int32} {o d t : Nat} {X : HF} {bi wh : Nat → Int32} {Y : HF} {bo : Bool} {w : Nat → Nat} {S : Nat → Nat → Nat → Int32} (h : hsX p m c code 4 s #[Value.ref b] RXL D vwCl (hsT cI cC) A H0) (hX : va_X b L xs s H0) (hbl : b < H0.size) (hbA : ¬ A b) (hL : L ≤ 4096) (hk : 8 * k + 8 ≤ L) (R : hsRel cols sol oth out num o d t bi wh w S) (K : hlK p l e s m below meth c Q D A H0 cI cC b k g) : hsV p l e room_1 s m #[Value.ref b] below meth c Q 4 D vwCl A H0 53 11171 640 (hlL b k (g 0) (g 8)) (hlW g cI cC cols sol oth out num o d t X bi wh Y bo) [] := by
  have hsol : ∀ i, i < 6 → sol i < 20 := fun i hi => Nat.lt_of_lt_of_le (R.inj.s1 i hi) (by decide)
  refine hv_aload_n h dXL_law_640 2 rfl rfl ?_
  refine hv_arg h hX hbl hbA hL 1 (by decide) (by omega) dXL_law_641 dXL_law_642 dXL_law_643 dXL_law_644 dXL_law_645 ?_
  refine hv_arg h hX hbl hbA hL 2 (by decide) (by omega) dXL_law_646 dXL_law_647 dXL_law_648 dXL_law_649 dXL_law_650 ?_
  refine hv_arg h hX hbl hbA hL 3 (by decide) (by omega) dXL_law_651 dXL_law_652 dXL_law_653 dXL_law_654 dXL_law_655 ?_
  refine hv_callp h (hr_Vi (n := 3) (rest := []) h 0 rfl rfl (k_X0_extent l D cI cC g cols sol oth out num (nI o) (nI d) (nI t) X.1 X.2.1 (nI X.2.2) (g 8, .inr (hsMi, [.ref (g 9), .int (nI d), .int (nI (d + t)), .ref (g 10), .ref (g 11), .int (nI Y.2.2), .ref (g 12), .int (hx_b bo)])) (g 9, .inl (cI, 4464, .inl bi)) (g 10, .inl (cI, 12, .inl wh)) (g 11, .inl (cI, 144, .inl Y.1)) (g 12, .inl (cI, 1728, .inl Y.2.1)) (xs (8 * k + 1)) (xs (8 * k + 2)) (xs (8 * k + 3)) hsol) w_methodLink_XL_75 w_instanceMethod_X0_extent w_selects_X0_extent w_initialized_X0 w_code_X0_extent (by decide +kernel) rfl rfl rfl ⟨by decide, by decide⟩ rfl (Nat.le_of_ble_eq_true rfl) ⟨by decide, by decide⟩ dXL_law_656) ?_
  refine hs_ws hl_WM ?_
  refine hv_aload_n h dXL_law_659 1 rfl rfl ?_
  refine hv_arg h hX hbl hbA hL 1 (by decide) (by omega) dXL_law_660 dXL_law_661 dXL_law_662 dXL_law_663 dXL_law_664 ?_
  refine hv_arg h hX hbl hbA hL 2 (by decide) (by omega) dXL_law_665 dXL_law_666 dXL_law_667 dXL_law_668 dXL_law_669 ?_
  refine hv_arg h hX hbl hbA hL 3 (by decide) (by omega) dXL_law_670 dXL_law_671 dXL_law_672 dXL_law_673 dXL_law_674 ?_
  refine hv_callp h (hr_Vi (n := 3) (rest := [.int _]) h 8 rfl rfl (k_X4_extent l D cI cC _ _ _ _ _ _ _ _ _ g bi wh Y.1 Y.2.1 (nI d) (nI (d + t)) (nI Y.2.2) (hx_b bo) (xs (8 * k + 1)) (xs (8 * k + 2)) (xs (8 * k + 3))) w_methodLink_XL_79 w_instanceMethod_X4_extent w_selects_X4_extent w_initialized_X4 w_code_X4_extent (by decide +kernel) rfl rfl rfl ⟨by decide, by decide⟩ rfl (Nat.le_of_ble_eq_true rfl) ⟨by decide, by decide⟩ dXL_law_675) ?_
  refine hs_ws hl_WM.symm ?_
  exact hv_icmp_eq h 1051 dXL_law_678 rfl (fun _ => K _ _ _ _ _ _ _ _ X _ _ Y bo _ _ R) (fun q => absurd (hl_extent R (xs (8 * k + 1)) (xs (8 * k + 2)) (xs (8 * k + 3))) q)
set_option maxHeartbeats 4000000 in
set_option maxRecDepth 100000 in
theorem hl_c_inside {p : Program} {l : Launch} {e : Env} {s : State} {m : MethodId} {below : List Frame} {meth : Method} {c : Code} {Q : State → Prop} {D : va_G} {A : Nat → Prop} {cI cC : ClassId} {b L k : Nat} {H0 : Heap} {xs : Nat → Int32} {g : Nat → Nat} {cols : Nat → Nat → Int32} {sol oth : Nat → Nat} {out : Nat} {num : Nat → Int32} {o d t : Nat} {X : HF} {bi wh : Nat → Int32} {Y : HF} {bo : Bool} {w : Nat → Nat} {S : Nat → Nat → Nat → Int32} (h : hsX p m c code 4 s #[Value.ref b] RXL D vwCl (hsT cI cC) A H0) (hX : va_X b L xs s H0) (hbl : b < H0.size) (hbA : ¬ A b) (hL : L ≤ 4096) (hk : 8 * k + 8 ≤ L) (R : hsRel cols sol oth out num o d t bi wh w S) (K : hlK p l e s m below meth c Q D A H0 cI cC b k g) : hsV p l e room_1 s m #[Value.ref b] below meth c Q 4 D vwCl A H0 53 11171 683 (hlL b k (g 0) (g 8)) (hlW g cI cC cols sol oth out num o d t X bi wh Y bo) [] := by
  have hsol : ∀ i, i < 6 → sol i < 20 := fun i hi => Nat.lt_of_lt_of_le (R.inj.s1 i hi) (by decide)
  refine hv_aload_n h dXL_law_683 2 rfl rfl ?_
  refine hv_arg h hX hbl hbA hL 1 (by decide) (by omega) dXL_law_684 dXL_law_685 dXL_law_686 dXL_law_687 dXL_law_688 ?_
  refine hv_arg h hX hbl hbA hL 2 (by decide) (by omega) dXL_law_689 dXL_law_690 dXL_law_691 dXL_law_692 dXL_law_693 ?_
  refine hv_arg h hX hbl hbA hL 3 (by decide) (by omega) dXL_law_694 dXL_law_695 dXL_law_696 dXL_law_697 dXL_law_698 ?_
  refine hv_arg h hX hbl hbA hL 4 (by decide) (by omega) dXL_law_699 dXL_law_700 dXL_law_701 dXL_law_702 dXL_law_703 ?_
  refine hv_callp h (hr_Vi (n := 4) (rest := []) h 0 rfl rfl (k_X0_inside l D cI cC g cols sol oth out num (nI o) (nI d) (nI t) X.1 X.2.1 (nI X.2.2) (g 8, .inr (hsMi, [.ref (g 9), .int (nI d), .int (nI (d + t)), .ref (g 10), .ref (g 11), .int (nI Y.2.2), .ref (g 12), .int (hx_b bo)])) (g 9, .inl (cI, 4464, .inl bi)) (g 10, .inl (cI, 12, .inl wh)) (g 11, .inl (cI, 144, .inl Y.1)) (g 12, .inl (cI, 1728, .inl Y.2.1)) (xs (8 * k + 1)) (xs (8 * k + 2)) (xs (8 * k + 3)) (xs (8 * k + 4)) hsol) w_methodLink_XL_80 w_instanceMethod_X0_inside w_selects_X0_inside w_initialized_X0 w_code_X0_inside (by decide +kernel) rfl rfl rfl ⟨by decide, by decide⟩ rfl (Nat.le_of_ble_eq_true rfl) ⟨by decide, by decide⟩ dXL_law_704) ?_
  refine hs_ws hl_WM ?_
  refine hv_aload_n h dXL_law_707 1 rfl rfl ?_
  refine hv_arg h hX hbl hbA hL 1 (by decide) (by omega) dXL_law_708 dXL_law_709 dXL_law_710 dXL_law_711 dXL_law_712 ?_
  refine hv_arg h hX hbl hbA hL 2 (by decide) (by omega) dXL_law_713 dXL_law_714 dXL_law_715 dXL_law_716 dXL_law_717 ?_
  refine hv_arg h hX hbl hbA hL 3 (by decide) (by omega) dXL_law_718 dXL_law_719 dXL_law_720 dXL_law_721 dXL_law_722 ?_
  refine hv_arg h hX hbl hbA hL 4 (by decide) (by omega) dXL_law_723 dXL_law_724 dXL_law_725 dXL_law_726 dXL_law_727 ?_
  refine hv_callp h (hr_Vi (n := 4) (rest := [.int _]) h 8 rfl rfl (k_X4_inside l D cI cC _ _ _ _ _ _ _ _ _ g bi wh Y.1 Y.2.1 (nI d) (nI (d + t)) (nI Y.2.2) (hx_b bo) (xs (8 * k + 1)) (xs (8 * k + 2)) (xs (8 * k + 3)) (xs (8 * k + 4))) w_methodLink_XL_83 w_instanceMethod_X4_inside w_selects_X4_inside w_initialized_X4 w_code_X4_inside (by decide +kernel) rfl rfl rfl ⟨by decide, by decide⟩ rfl (Nat.le_of_ble_eq_true rfl) ⟨by decide, by decide⟩ dXL_law_728) ?_
  refine hs_ws hl_WM.symm ?_
  exact hv_icmp_eq h 1051 dXL_law_731 rfl (fun _ => K _ _ _ _ _ _ _ _ X _ _ Y bo _ _ R) (fun q => absurd (hl_inside R (xs (8 * k + 1)) (xs (8 * k + 2)) (xs (8 * k + 3)) (xs (8 * k + 4))) q)
set_option maxHeartbeats 4000000 in
set_option maxRecDepth 100000 in
theorem hl_c_section {p : Program} {l : Launch} {e : Env} {s : State} {m : MethodId} {below : List Frame} {meth : Method} {c : Code} {Q : State → Prop} {D : va_G} {A : Nat → Prop} {cI cC : ClassId} {b L k : Nat} {H0 : Heap} {xs : Nat → Int32} {g : Nat → Nat} {cols : Nat → Nat → Int32} {sol oth : Nat → Nat} {out : Nat} {num : Nat → Int32} {o d t : Nat} {X : HF} {bi wh : Nat → Int32} {Y : HF} {bo : Bool} {w : Nat → Nat} {S : Nat → Nat → Nat → Int32} (h : hsX p m c code 4 s #[Value.ref b] RXL D vwCl (hsT cI cC) A H0) (hX : va_X b L xs s H0) (hbl : b < H0.size) (hbA : ¬ A b) (hL : L ≤ 4096) (hk : 8 * k + 8 ≤ L) (R : hsRel cols sol oth out num o d t bi wh w S) (K : hlK p l e s m below meth c Q D A H0 cI cC b k g) : hsV p l e room_1 s m #[Value.ref b] below meth c Q 4 D vwCl A H0 53 11171 736 (hlL b k (g 0) (g 8)) (hlW g cI cC cols sol oth out num o d t X bi wh Y bo) [] := by
  have hsol : ∀ i, i < 6 → sol i < 20 := fun i hi => Nat.lt_of_lt_of_le (R.inj.s1 i hi) (by decide)
  refine hv_aload_n h dXL_law_736 2 rfl rfl ?_
  refine hv_arg h hX hbl hbA hL 1 (by decide) (by omega) dXL_law_737 dXL_law_738 dXL_law_739 dXL_law_740 dXL_law_741 ?_
  refine hv_arg h hX hbl hbA hL 2 (by decide) (by omega) dXL_law_742 dXL_law_743 dXL_law_744 dXL_law_745 dXL_law_746 ?_
  refine hv_arg h hX hbl hbA hL 3 (by decide) (by omega) dXL_law_747 dXL_law_748 dXL_law_749 dXL_law_750 dXL_law_751 ?_
  refine hv_callp h (hr_Vi (n := 3) (rest := []) h 0 rfl rfl (k_X0_section l D cI cC g cols sol oth out num (nI o) (nI d) (nI t) X.1 X.2.1 (nI X.2.2) (g 8, .inr (hsMi, [.ref (g 9), .int (nI d), .int (nI (d + t)), .ref (g 10), .ref (g 11), .int (nI Y.2.2), .ref (g 12), .int (hx_b bo)])) (g 9, .inl (cI, 4464, .inl bi)) (g 10, .inl (cI, 12, .inl wh)) (g 11, .inl (cI, 144, .inl Y.1)) (g 12, .inl (cI, 1728, .inl Y.2.1)) (xs (8 * k + 1)) (xs (8 * k + 2)) (xs (8 * k + 3)) hsol) w_methodLink_XL_84 w_instanceMethod_X0_section w_selects_X0_section w_initialized_X0 w_code_X0_section (by decide +kernel) rfl rfl rfl ⟨by decide, by decide⟩ rfl (Nat.le_of_ble_eq_true rfl) ⟨by decide, by decide⟩ dXL_law_752) ?_
  refine hs_ws hl_WM ?_
  refine hv_aload_n h dXL_law_755 1 rfl rfl ?_
  refine hv_arg h hX hbl hbA hL 1 (by decide) (by omega) dXL_law_756 dXL_law_757 dXL_law_758 dXL_law_759 dXL_law_760 ?_
  refine hv_arg h hX hbl hbA hL 2 (by decide) (by omega) dXL_law_761 dXL_law_762 dXL_law_763 dXL_law_764 dXL_law_765 ?_
  refine hv_arg h hX hbl hbA hL 3 (by decide) (by omega) dXL_law_766 dXL_law_767 dXL_law_768 dXL_law_769 dXL_law_770 ?_
  refine hv_callp h (hr_Vi (n := 3) (rest := [.int _]) h 8 rfl rfl (k_X4_section l D cI cC _ _ _ _ _ _ _ _ _ g bi wh Y.1 Y.2.1 (nI d) (nI (d + t)) (nI Y.2.2) (hx_b bo) (xs (8 * k + 1)) (xs (8 * k + 2)) (xs (8 * k + 3))) w_methodLink_XL_87 w_instanceMethod_X4_section w_selects_X4_section w_initialized_X4 w_code_X4_section (by decide +kernel) rfl rfl rfl ⟨by decide, by decide⟩ rfl (Nat.le_of_ble_eq_true rfl) ⟨by decide, by decide⟩ dXL_law_771) ?_
  refine hs_ws hl_WM.symm ?_
  exact hv_icmp_eq h 1051 dXL_law_774 rfl (fun _ => K _ _ _ _ _ _ _ _ X _ _ Y bo _ _ R) (fun q => absurd (hl_section R (xs (8 * k + 1)) (xs (8 * k + 2)) (xs (8 * k + 3))) q)
set_option maxHeartbeats 4000000 in
set_option maxRecDepth 100000 in
theorem hl_c_same {p : Program} {l : Launch} {e : Env} {s : State} {m : MethodId} {below : List Frame} {meth : Method} {c : Code} {Q : State → Prop} {D : va_G} {A : Nat → Prop} {cI cC : ClassId} {b L k : Nat} {H0 : Heap} {xs : Nat → Int32} {g : Nat → Nat} {cols : Nat → Nat → Int32} {sol oth : Nat → Nat} {out : Nat} {num : Nat → Int32} {o d t : Nat} {X : HF} {bi wh : Nat → Int32} {Y : HF} {bo : Bool} {w : Nat → Nat} {S : Nat → Nat → Nat → Int32} (h : hsX p m c code 4 s #[Value.ref b] RXL D vwCl (hsT cI cC) A H0) (hX : va_X b L xs s H0) (hbl : b < H0.size) (hbA : ¬ A b) (hL : L ≤ 4096) (hk : 8 * k + 8 ≤ L) (R : hsRel cols sol oth out num o d t bi wh w S) (K : hlK p l e s m below meth c Q D A H0 cI cC b k g) : hsV p l e room_1 s m #[Value.ref b] below meth c Q 4 D vwCl A H0 53 11171 779 (hlL b k (g 0) (g 8)) (hlW g cI cC cols sol oth out num o d t X bi wh Y bo) [] := by
  have hsol : ∀ i, i < 6 → sol i < 20 := fun i hi => Nat.lt_of_lt_of_le (R.inj.s1 i hi) (by decide)
  refine hv_aload_n h dXL_law_779 2 rfl rfl ?_
  refine hv_arg h hX hbl hbA hL 1 (by decide) (by omega) dXL_law_780 dXL_law_781 dXL_law_782 dXL_law_783 dXL_law_784 ?_
  refine hv_arg h hX hbl hbA hL 2 (by decide) (by omega) dXL_law_785 dXL_law_786 dXL_law_787 dXL_law_788 dXL_law_789 ?_
  refine hv_callp h (hr_Vi (n := 2) (rest := []) h 0 rfl rfl (k_X0_same l D cI cC g cols sol oth out num (nI o) (nI d) (nI t) X.1 X.2.1 (nI X.2.2) (g 8, .inr (hsMi, [.ref (g 9), .int (nI d), .int (nI (d + t)), .ref (g 10), .ref (g 11), .int (nI Y.2.2), .ref (g 12), .int (hx_b bo)])) (g 9, .inl (cI, 4464, .inl bi)) (g 10, .inl (cI, 12, .inl wh)) (g 11, .inl (cI, 144, .inl Y.1)) (g 12, .inl (cI, 1728, .inl Y.2.1)) (xs (8 * k + 1)) (xs (8 * k + 2)) hsol) w_methodLink_XL_88 w_instanceMethod_X0_same w_selects_X0_same w_initialized_X0 w_code_X0_same (by decide +kernel) rfl rfl rfl ⟨by decide, by decide⟩ rfl (Nat.le_of_ble_eq_true rfl) ⟨by decide, by decide⟩ dXL_law_790) ?_
  refine hs_ws hl_WM ?_
  refine hv_aload_n h dXL_law_793 1 rfl rfl ?_
  refine hv_arg h hX hbl hbA hL 1 (by decide) (by omega) dXL_law_794 dXL_law_795 dXL_law_796 dXL_law_797 dXL_law_798 ?_
  refine hv_arg h hX hbl hbA hL 2 (by decide) (by omega) dXL_law_799 dXL_law_800 dXL_law_801 dXL_law_802 dXL_law_803 ?_
  refine hv_callp h (hr_Vi (n := 2) (rest := [.int _]) h 8 rfl rfl (k_X4_same l D cI cC _ _ _ _ _ _ _ _ _ g bi wh Y.1 Y.2.1 (nI d) (nI (d + t)) (nI Y.2.2) (hx_b bo) (xs (8 * k + 1)) (xs (8 * k + 2))) w_methodLink_XL_92 w_instanceMethod_X4_same w_selects_X4_same w_initialized_X4 w_code_X4_same (by decide +kernel) rfl rfl rfl ⟨by decide, by decide⟩ rfl (Nat.le_of_ble_eq_true rfl) ⟨by decide, by decide⟩ dXL_law_804) ?_
  refine hs_ws hl_WM.symm ?_
  exact hv_icmp_eq h 1051 dXL_law_807 rfl (fun _ => K _ _ _ _ _ _ _ _ X _ _ Y bo _ _ R) (fun q => absurd (hl_same R (xs (8 * k + 1)) (xs (8 * k + 2))) q)
set_option maxHeartbeats 4000000 in
set_option maxRecDepth 100000 in
theorem hl_c_depth {p : Program} {l : Launch} {e : Env} {s : State} {m : MethodId} {below : List Frame} {meth : Method} {c : Code} {Q : State → Prop} {D : va_G} {A : Nat → Prop} {cI cC : ClassId} {b L k : Nat} {H0 : Heap} {xs : Nat → Int32} {g : Nat → Nat} {cols : Nat → Nat → Int32} {sol oth : Nat → Nat} {out : Nat} {num : Nat → Int32} {o d t : Nat} {X : HF} {bi wh : Nat → Int32} {Y : HF} {bo : Bool} {w : Nat → Nat} {S : Nat → Nat → Nat → Int32} (h : hsX p m c code 4 s #[Value.ref b] RXL D vwCl (hsT cI cC) A H0) (hX : va_X b L xs s H0) (hbl : b < H0.size) (hbA : ¬ A b) (hL : L ≤ 4096) (hk : 8 * k + 8 ≤ L) (R : hsRel cols sol oth out num o d t bi wh w S) (K : hlK p l e s m below meth c Q D A H0 cI cC b k g) : hsV p l e room_1 s m #[Value.ref b] below meth c Q 4 D vwCl A H0 53 11171 812 (hlL b k (g 0) (g 8)) (hlW g cI cC cols sol oth out num o d t X bi wh Y bo) [] := by
  have hsol : ∀ i, i < 6 → sol i < 20 := fun i hi => Nat.lt_of_lt_of_le (R.inj.s1 i hi) (by decide)
  refine hv_aload_n h dXL_law_812 2 rfl rfl ?_
  refine hv_arg h hX hbl hbA hL 1 (by decide) (by omega) dXL_law_813 dXL_law_814 dXL_law_815 dXL_law_816 dXL_law_817 ?_
  refine hv_arg h hX hbl hbA hL 2 (by decide) (by omega) dXL_law_818 dXL_law_819 dXL_law_820 dXL_law_821 dXL_law_822 ?_
  refine hv_arg h hX hbl hbA hL 3 (by decide) (by omega) dXL_law_823 dXL_law_824 dXL_law_825 dXL_law_826 dXL_law_827 ?_
  refine hv_nz h dXL_law_828 rfl dXL_law_831 dXL_law_832 rfl dXL_law_835 ?_
  refine hv_arg h hX hbl hbA hL 4 (by decide) (by omega) dXL_law_836 dXL_law_837 dXL_law_838 dXL_law_839 dXL_law_840 ?_
  refine hv_arg h hX hbl hbA hL 5 (by decide) (by omega) dXL_law_841 dXL_law_842 dXL_law_843 dXL_law_844 dXL_law_845 ?_
  refine hv_callp h (hr_Vi (n := 5) (rest := []) h 0 rfl rfl (k_X0_depth l D cI cC g cols sol oth out num (nI o) (nI d) (nI t) X.1 X.2.1 (nI X.2.2) (g 8, .inr (hsMi, [.ref (g 9), .int (nI d), .int (nI (d + t)), .ref (g 10), .ref (g 11), .int (nI Y.2.2), .ref (g 12), .int (hx_b bo)])) (g 9, .inl (cI, 4464, .inl bi)) (g 10, .inl (cI, 12, .inl wh)) (g 11, .inl (cI, 144, .inl Y.1)) (g 12, .inl (cI, 1728, .inl Y.2.1)) (xs (8 * k + 1)) (xs (8 * k + 2)) (hl_z (xs (8 * k + 3))) (xs (8 * k + 4)) (xs (8 * k + 5)) hsol) w_methodLink_XL_93 w_instanceMethod_X0_depth w_selects_X0_depth w_initialized_X0 w_code_X0_depth (by decide +kernel) rfl rfl rfl ⟨by decide, by decide⟩ rfl (Nat.le_of_ble_eq_true rfl) ⟨by decide, by decide⟩ dXL_law_846) ?_
  refine hs_ws hl_WM ?_
  refine hv_aload_n h dXL_law_849 1 rfl rfl ?_
  refine hv_arg h hX hbl hbA hL 1 (by decide) (by omega) dXL_law_850 dXL_law_851 dXL_law_852 dXL_law_853 dXL_law_854 ?_
  refine hv_arg h hX hbl hbA hL 2 (by decide) (by omega) dXL_law_855 dXL_law_856 dXL_law_857 dXL_law_858 dXL_law_859 ?_
  refine hv_arg h hX hbl hbA hL 3 (by decide) (by omega) dXL_law_860 dXL_law_861 dXL_law_862 dXL_law_863 dXL_law_864 ?_
  refine hv_nz h dXL_law_865 rfl dXL_law_868 dXL_law_869 rfl dXL_law_872 ?_
  refine hv_arg h hX hbl hbA hL 4 (by decide) (by omega) dXL_law_873 dXL_law_874 dXL_law_875 dXL_law_876 dXL_law_877 ?_
  refine hv_arg h hX hbl hbA hL 5 (by decide) (by omega) dXL_law_878 dXL_law_879 dXL_law_880 dXL_law_881 dXL_law_882 ?_
  refine hv_callp h (hr_Vi (n := 5) (rest := [.int _]) h 8 rfl rfl (k_X4_depth l D cI cC _ _ _ _ _ _ _ _ _ g bi wh Y.1 Y.2.1 (nI d) (nI (d + t)) (nI Y.2.2) (hx_b bo) (xs (8 * k + 1)) (xs (8 * k + 2)) (hl_z (xs (8 * k + 3))) (xs (8 * k + 4)) (xs (8 * k + 5))) w_methodLink_XL_97 w_instanceMethod_X4_depth w_selects_X4_depth w_initialized_X4 w_code_X4_depth (by decide +kernel) rfl rfl rfl ⟨by decide, by decide⟩ rfl (Nat.le_of_ble_eq_true rfl) ⟨by decide, by decide⟩ dXL_law_883) ?_
  refine hs_ws hl_WM.symm ?_
  exact hv_icmp_eq h 1051 dXL_law_886 rfl (fun _ => K _ _ _ _ _ _ _ _ X _ _ Y bo _ _ R) (fun q => absurd (hl_depth R (xs (8 * k + 1)) (xs (8 * k + 2)) (hl_z (xs (8 * k + 3))) (xs (8 * k + 4)) (xs (8 * k + 5))) q)
set_option maxHeartbeats 4000000 in
set_option maxRecDepth 100000 in
theorem hl_c_stroke {p : Program} {l : Launch} {e : Env} {s : State} {m : MethodId} {below : List Frame} {meth : Method} {c : Code} {Q : State → Prop} {D : va_G} {A : Nat → Prop} {cI cC : ClassId} {b L k : Nat} {H0 : Heap} {xs : Nat → Int32} {g : Nat → Nat} {cols : Nat → Nat → Int32} {sol oth : Nat → Nat} {out : Nat} {num : Nat → Int32} {o d t : Nat} {X : HF} {bi wh : Nat → Int32} {Y : HF} {bo : Bool} {w : Nat → Nat} {S : Nat → Nat → Nat → Int32} (h : hsX p m c code 4 s #[Value.ref b] RXL D vwCl (hsT cI cC) A H0) (hX : va_X b L xs s H0) (hbl : b < H0.size) (hbA : ¬ A b) (hL : L ≤ 4096) (hk : 8 * k + 8 ≤ L) (R : hsRel cols sol oth out num o d t bi wh w S) (K : hlK p l e s m below meth c Q D A H0 cI cC b k g) : hsV p l e room_1 s m #[Value.ref b] below meth c Q 4 D vwCl A H0 53 11171 891 (hlL b k (g 0) (g 8)) (hlW g cI cC cols sol oth out num o d t X bi wh Y bo) [] := by
  have hsol : ∀ i, i < 6 → sol i < 20 := fun i hi => Nat.lt_of_lt_of_le (R.inj.s1 i hi) (by decide)
  refine hv_aload_n h dXL_law_891 2 rfl rfl ?_
  refine hv_arg h hX hbl hbA hL 1 (by decide) (by omega) dXL_law_892 dXL_law_893 dXL_law_894 dXL_law_895 dXL_law_896 ?_
  refine hv_arg h hX hbl hbA hL 2 (by decide) (by omega) dXL_law_897 dXL_law_898 dXL_law_899 dXL_law_900 dXL_law_901 ?_
  refine hv_arg h hX hbl hbA hL 3 (by decide) (by omega) dXL_law_902 dXL_law_903 dXL_law_904 dXL_law_905 dXL_law_906 ?_
  refine hv_nz h dXL_law_907 rfl dXL_law_910 dXL_law_911 rfl dXL_law_914 ?_
  refine hv_arg h hX hbl hbA hL 4 (by decide) (by omega) dXL_law_915 dXL_law_916 dXL_law_917 dXL_law_918 dXL_law_919 ?_
  refine hv_arg h hX hbl hbA hL 5 (by decide) (by omega) dXL_law_920 dXL_law_921 dXL_law_922 dXL_law_923 dXL_law_924 ?_
  refine hv_argb h hX hbl hbA hL 6 (by decide) (by omega) dXL_law_925 dXL_law_926 dXL_law_927 dXL_law_929 dXL_law_930 ?_
  refine hv_callp h (hr_Vi (n := 6) (rest := []) h 0 rfl rfl (k_X0_stroke l D cI cC g cols sol oth out num (nI o) (nI d) (nI t) X.1 X.2.1 (nI X.2.2) (g 8, .inr (hsMi, [.ref (g 9), .int (nI d), .int (nI (d + t)), .ref (g 10), .ref (g 11), .int (nI Y.2.2), .ref (g 12), .int (hx_b bo)])) (g 9, .inl (cI, 4464, .inl bi)) (g 10, .inl (cI, 12, .inl wh)) (g 11, .inl (cI, 144, .inl Y.1)) (g 12, .inl (cI, 1728, .inl Y.2.1)) (xs (8 * k + 1)) (xs (8 * k + 2)) (hl_z (xs (8 * k + 3))) (xs (8 * k + 4)) (xs (8 * k + 5)) (xs (8 * k + 6)) hsol) w_methodLink_XL_98 w_instanceMethod_X0_stroke w_selects_X0_stroke w_initialized_X0 w_code_X0_stroke (by decide +kernel) rfl rfl rfl ⟨by decide, by decide⟩ rfl (Nat.le_of_ble_eq_true rfl) ⟨by decide, by decide⟩ dXL_law_931) ?_
  refine hs_ws hl_WM ?_
  refine hv_aload_n h dXL_law_934 1 rfl rfl ?_
  refine hv_arg h hX hbl hbA hL 1 (by decide) (by omega) dXL_law_935 dXL_law_936 dXL_law_937 dXL_law_938 dXL_law_939 ?_
  refine hv_arg h hX hbl hbA hL 2 (by decide) (by omega) dXL_law_940 dXL_law_941 dXL_law_942 dXL_law_943 dXL_law_944 ?_
  refine hv_arg h hX hbl hbA hL 3 (by decide) (by omega) dXL_law_945 dXL_law_946 dXL_law_947 dXL_law_948 dXL_law_949 ?_
  refine hv_nz h dXL_law_950 rfl dXL_law_953 dXL_law_954 rfl dXL_law_957 ?_
  refine hv_arg h hX hbl hbA hL 4 (by decide) (by omega) dXL_law_958 dXL_law_959 dXL_law_960 dXL_law_961 dXL_law_962 ?_
  refine hv_arg h hX hbl hbA hL 5 (by decide) (by omega) dXL_law_963 dXL_law_964 dXL_law_965 dXL_law_966 dXL_law_967 ?_
  refine hv_argb h hX hbl hbA hL 6 (by decide) (by omega) dXL_law_968 dXL_law_969 dXL_law_970 dXL_law_972 dXL_law_973 ?_
  refine hv_callp h (hr_Vi (n := 6) (rest := [.int _]) h 8 rfl rfl (k_X4_stroke l D cI cC _ _ _ _ _ _ _ _ _ g bi wh Y.1 Y.2.1 (nI d) (nI (d + t)) (nI Y.2.2) (hx_b bo) (xs (8 * k + 1)) (xs (8 * k + 2)) (hl_z (xs (8 * k + 3))) (xs (8 * k + 4)) (xs (8 * k + 5)) (xs (8 * k + 6))) w_methodLink_XL_102 w_instanceMethod_X4_stroke w_selects_X4_stroke w_initialized_X4 w_code_X4_stroke (by decide +kernel) rfl rfl rfl ⟨by decide, by decide⟩ rfl (Nat.le_of_ble_eq_true rfl) ⟨by decide, by decide⟩ dXL_law_974) ?_
  refine hs_ws hl_WM.symm ?_
  exact hv_icmp_eq h 1051 dXL_law_977 rfl (fun _ => K _ _ _ _ _ _ _ _ X _ _ Y bo _ _ R) (fun q => absurd (hl_stroke R (xs (8 * k + 1)) (xs (8 * k + 2)) (hl_z (xs (8 * k + 3))) (xs (8 * k + 4)) (xs (8 * k + 5)) (xs (8 * k + 6))) q)
set_option maxHeartbeats 4000000 in
set_option maxRecDepth 100000 in
theorem hl_c_pieces {p : Program} {l : Launch} {e : Env} {s : State} {m : MethodId} {below : List Frame} {meth : Method} {c : Code} {Q : State → Prop} {D : va_G} {A : Nat → Prop} {cI cC : ClassId} {b L k : Nat} {H0 : Heap} {xs : Nat → Int32} {g : Nat → Nat} {cols : Nat → Nat → Int32} {sol oth : Nat → Nat} {out : Nat} {num : Nat → Int32} {o d t : Nat} {X : HF} {bi wh : Nat → Int32} {Y : HF} {bo : Bool} {w : Nat → Nat} {S : Nat → Nat → Nat → Int32} (h : hsX p m c code 4 s #[Value.ref b] RXL D vwCl (hsT cI cC) A H0) (hX : va_X b L xs s H0) (hbl : b < H0.size) (hbA : ¬ A b) (hL : L ≤ 4096) (hk : 8 * k + 8 ≤ L) (R : hsRel cols sol oth out num o d t bi wh w S) (K : hlK p l e s m below meth c Q D A H0 cI cC b k g) : hsV p l e room_1 s m #[Value.ref b] below meth c Q 4 D vwCl A H0 53 11171 561 (hlL b k (g 0) (g 8)) (hlW g cI cC cols sol oth out num o d t X bi wh Y bo) [] := by
  have hsol : ∀ i, i < 6 → sol i < 20 := fun i hi => Nat.lt_of_lt_of_le (R.inj.s1 i hi) (by decide)
  refine hv_aload_n h dXL_law_561 2 rfl rfl ?_
  refine hv_arg h hX hbl hbA hL 1 (by decide) (by omega) dXL_law_562 dXL_law_563 dXL_law_564 dXL_law_565 dXL_law_566 ?_
  refine hv_calli h (hr_Vi (n := 1) (rest := []) h 0 rfl rfl (k_X0_pieces l D cI cC g cols sol oth out num (nI o) (nI d) (nI t) X (g 8, .inr (hsMi, [.ref (g 9), .int (nI d), .int (nI (d + t)), .ref (g 10), .ref (g 11), .int (nI Y.2.2), .ref (g 12), .int (hx_b bo)])) (g 9, .inl (cI, 4464, .inl bi)) (g 10, .inl (cI, 12, .inl wh)) (g 11, .inl (cI, 144, .inl Y.1)) (g 12, .inl (cI, 1728, .inl Y.2.1)) (xs (8 * k + 1)) hsol) w_methodLink_XL_63 w_instanceMethod_X0_pieces w_selects_X0_pieces w_initialized_X0 w_code_X0_pieces (by decide +kernel) rfl rfl rfl ⟨by decide, by decide⟩ rfl (Nat.le_of_ble_eq_true rfl) ⟨by decide, by decide⟩ dXL_law_567) (fun r1 w1 hp1 => ?_)
  obtain ⟨rfl, X2, rfl⟩ := hp1
  refine hs_ws hl_WM ?_
  refine hv_aload_n h dXL_law_570 1 rfl rfl ?_
  refine hv_arg h hX hbl hbA hL 1 (by decide) (by omega) dXL_law_571 dXL_law_572 dXL_law_573 dXL_law_574 dXL_law_575 ?_
  refine hv_calli h (hr_Vi (n := 1) (rest := [.int _]) h 8 rfl rfl (k_X4_pieces l D cI cC _ _ _ _ _ _ _ _ _ g bi wh Y (nI d) (nI (d + t)) bo (xs (8 * k + 1))) w_methodLink_XL_66 w_instanceMethod_X4_pieces w_selects_X4_pieces w_initialized_X4 w_code_X4_pieces (by decide +kernel) rfl rfl rfl ⟨by decide, by decide⟩ rfl (Nat.le_of_ble_eq_true rfl) ⟨by decide, by decide⟩ dXL_law_576) (fun r2 w2 hp2 => ?_)
  obtain ⟨rfl, Y2, b2, rfl⟩ := hp2
  refine hs_ws hl_WM.symm ?_
  exact hv_icmp_eq h 1051 dXL_law_579 rfl (fun _ => K _ _ _ _ _ _ _ _ X2 _ _ Y2 b2 _ _ R) (fun q => absurd (hl_pieces R (xs (8 * k + 1)) X Y bo) q)
set_option maxHeartbeats 4000000 in
set_option maxRecDepth 100000 in
theorem hl_c_hollows {p : Program} {l : Launch} {e : Env} {s : State} {m : MethodId} {below : List Frame} {meth : Method} {c : Code} {Q : State → Prop} {D : va_G} {A : Nat → Prop} {cI cC : ClassId} {b L k : Nat} {H0 : Heap} {xs : Nat → Int32} {g : Nat → Nat} {cols : Nat → Nat → Int32} {sol oth : Nat → Nat} {out : Nat} {num : Nat → Int32} {o d t : Nat} {X : HF} {bi wh : Nat → Int32} {Y : HF} {bo : Bool} {w : Nat → Nat} {S : Nat → Nat → Nat → Int32} (h : hsX p m c code 4 s #[Value.ref b] RXL D vwCl (hsT cI cC) A H0) (hX : va_X b L xs s H0) (hbl : b < H0.size) (hbA : ¬ A b) (hL : L ≤ 4096) (hk : 8 * k + 8 ≤ L) (R : hsRel cols sol oth out num o d t bi wh w S) (K : hlK p l e s m below meth c Q D A H0 cI cC b k g) : hsV p l e room_1 s m #[Value.ref b] below meth c Q 4 D vwCl A H0 53 11171 584 (hlL b k (g 0) (g 8)) (hlW g cI cC cols sol oth out num o d t X bi wh Y bo) [] := by
  have hsol : ∀ i, i < 6 → sol i < 20 := fun i hi => Nat.lt_of_lt_of_le (R.inj.s1 i hi) (by decide)
  refine hv_aload_n h dXL_law_584 2 rfl rfl ?_
  refine hv_arg h hX hbl hbA hL 1 (by decide) (by omega) dXL_law_585 dXL_law_586 dXL_law_587 dXL_law_588 dXL_law_589 ?_
  refine hv_calli h (hr_Vi (n := 1) (rest := []) h 0 rfl rfl (k_X0_hollows l D cI cC g cols sol oth out num (nI o) (nI d) (nI t) X (g 8, .inr (hsMi, [.ref (g 9), .int (nI d), .int (nI (d + t)), .ref (g 10), .ref (g 11), .int (nI Y.2.2), .ref (g 12), .int (hx_b bo)])) (g 9, .inl (cI, 4464, .inl bi)) (g 10, .inl (cI, 12, .inl wh)) (g 11, .inl (cI, 144, .inl Y.1)) (g 12, .inl (cI, 1728, .inl Y.2.1)) (xs (8 * k + 1)) hsol) w_methodLink_XL_67 w_instanceMethod_X0_hollows w_selects_X0_hollows w_initialized_X0 w_code_X0_hollows (by decide +kernel) rfl rfl rfl ⟨by decide, by decide⟩ rfl (Nat.le_of_ble_eq_true rfl) ⟨by decide, by decide⟩ dXL_law_590) (fun r1 w1 hp1 => ?_)
  obtain ⟨rfl, X2, rfl⟩ := hp1
  refine hs_ws hl_WM ?_
  refine hv_aload_n h dXL_law_593 1 rfl rfl ?_
  refine hv_arg h hX hbl hbA hL 1 (by decide) (by omega) dXL_law_594 dXL_law_595 dXL_law_596 dXL_law_597 dXL_law_598 ?_
  refine hv_calli h (hr_Vi (n := 1) (rest := [.int _]) h 8 rfl rfl (k_X4_hollows l D cI cC _ _ _ _ _ _ _ _ _ g bi wh Y (nI d) (nI (d + t)) bo (xs (8 * k + 1))) w_methodLink_XL_70 w_instanceMethod_X4_hollows w_selects_X4_hollows w_initialized_X4 w_code_X4_hollows (by decide +kernel) rfl rfl rfl ⟨by decide, by decide⟩ rfl (Nat.le_of_ble_eq_true rfl) ⟨by decide, by decide⟩ dXL_law_599) (fun r2 w2 hp2 => ?_)
  obtain ⟨rfl, Y2, b2, rfl⟩ := hp2
  refine hs_ws hl_WM.symm ?_
  exact hv_icmp_eq h 1051 dXL_law_602 rfl (fun _ => K _ _ _ _ _ _ _ _ X2 _ _ Y2 b2 _ _ R) (fun q => absurd (hl_hollows R (xs (8 * k + 1)) X Y bo) q)
set_option maxHeartbeats 4000000 in
set_option maxRecDepth 100000 in
theorem hl_c_strokes {p : Program} {l : Launch} {e : Env} {s : State} {m : MethodId} {below : List Frame} {meth : Method} {c : Code} {Q : State → Prop} {D : va_G} {A : Nat → Prop} {cI cC : ClassId} {b L k : Nat} {H0 : Heap} {xs : Nat → Int32} {g : Nat → Nat} {cols : Nat → Nat → Int32} {sol oth : Nat → Nat} {out : Nat} {num : Nat → Int32} {o d t : Nat} {X : HF} {bi wh : Nat → Int32} {Y : HF} {bo : Bool} {w : Nat → Nat} {S : Nat → Nat → Nat → Int32} (h : hsX p m c code 4 s #[Value.ref b] RXL D vwCl (hsT cI cC) A H0) (hX : va_X b L xs s H0) (hbl : b < H0.size) (hbA : ¬ A b) (hL : L ≤ 4096) (hk : 8 * k + 8 ≤ L) (R : hsRel cols sol oth out num o d t bi wh w S) (K : hlK p l e s m below meth c Q D A H0 cI cC b k g) : hsV p l e room_1 s m #[Value.ref b] below meth c Q 4 D vwCl A H0 53 11171 982 (hlL b k (g 0) (g 8)) (hlW g cI cC cols sol oth out num o d t X bi wh Y bo) [] := by
  have hsol : ∀ i, i < 6 → sol i < 20 := fun i hi => Nat.lt_of_lt_of_le (R.inj.s1 i hi) (by decide)
  refine hv_aload_n h dXL_law_982 2 rfl rfl ?_
  refine hv_arg h hX hbl hbA hL 1 (by decide) (by omega) dXL_law_983 dXL_law_984 dXL_law_985 dXL_law_986 dXL_law_987 ?_
  refine hv_arg h hX hbl hbA hL 2 (by decide) (by omega) dXL_law_988 dXL_law_989 dXL_law_990 dXL_law_991 dXL_law_992 ?_
  refine hv_arg h hX hbl hbA hL 3 (by decide) (by omega) dXL_law_993 dXL_law_994 dXL_law_995 dXL_law_996 dXL_law_997 ?_
  refine hv_nz h dXL_law_998 rfl dXL_law_1001 dXL_law_1002 rfl dXL_law_1005 ?_
  refine hv_arg h hX hbl hbA hL 4 (by decide) (by omega) dXL_law_1006 dXL_law_1007 dXL_law_1008 dXL_law_1009 dXL_law_1010 ?_
  refine hv_calli h (hr_Vi (n := 4) (rest := []) h 0 rfl rfl (k_X0_strokes l D cI cC g cols sol oth out num (nI o) (nI d) (nI t) X.1 X.2.1 (nI X.2.2) (g 8, .inr (hsMi, [.ref (g 9), .int (nI d), .int (nI (d + t)), .ref (g 10), .ref (g 11), .int (nI Y.2.2), .ref (g 12), .int (hx_b bo)])) (g 9, .inl (cI, 4464, .inl bi)) (g 10, .inl (cI, 12, .inl wh)) (g 11, .inl (cI, 144, .inl Y.1)) (g 12, .inl (cI, 1728, .inl Y.2.1)) (xs (8 * k + 1)) (xs (8 * k + 2)) (hl_z (xs (8 * k + 3))) (xs (8 * k + 4)) hsol (fun i hi => by have := R.inj.s1 i hi; omega)) w_methodLink_XL_103 w_instanceMethod_X0_strokes w_selects_X0_strokes w_initialized_X0 w_code_X0_strokes (by decide +kernel) rfl rfl rfl ⟨by decide, by decide⟩ rfl (Nat.le_of_ble_eq_true rfl) ⟨by decide, by decide⟩ dXL_law_1011) (fun r1 w1 hp1 => ?_)
  obtain ⟨rfl, V, rfl⟩ := hp1
  refine hs_ws hl_WM ?_
  refine hv_aload_n h dXL_law_1014 1 rfl rfl ?_
  refine hv_arg h hX hbl hbA hL 1 (by decide) (by omega) dXL_law_1015 dXL_law_1016 dXL_law_1017 dXL_law_1018 dXL_law_1019 ?_
  refine hv_arg h hX hbl hbA hL 2 (by decide) (by omega) dXL_law_1020 dXL_law_1021 dXL_law_1022 dXL_law_1023 dXL_law_1024 ?_
  refine hv_arg h hX hbl hbA hL 3 (by decide) (by omega) dXL_law_1025 dXL_law_1026 dXL_law_1027 dXL_law_1028 dXL_law_1029 ?_
  refine hv_nz h dXL_law_1030 rfl dXL_law_1033 dXL_law_1034 rfl dXL_law_1037 ?_
  refine hv_arg h hX hbl hbA hL 4 (by decide) (by omega) dXL_law_1038 dXL_law_1039 dXL_law_1040 dXL_law_1041 dXL_law_1042 ?_
  refine hv_callp h (hr_Vi (n := 4) (rest := [.int _]) h 8 rfl rfl (k_X4_strokes l D cI cC _ _ _ _ _ _ _ _ _ g bi wh Y.1 Y.2.1 (nI d) (nI (d + t)) (nI Y.2.2) (hx_b bo) (xs (8 * k + 1)) (xs (8 * k + 2)) (hl_z (xs (8 * k + 3))) (xs (8 * k + 4))) w_methodLink_XL_107 w_instanceMethod_X4_strokes w_selects_X4_strokes w_initialized_X4 w_code_X4_strokes (by decide +kernel) rfl rfl rfl ⟨by decide, by decide⟩ rfl (Nat.le_of_ble_eq_true rfl) ⟨by decide, by decide⟩ dXL_law_1043) ?_
  refine hs_ws hl_WM.symm ?_
  exact hv_icmp_eq h 1051 dXL_law_1046 rfl (fun _ => K _ _ _ _ _ _ _ _ X _ _ Y bo _ _ (R.view V)) (fun q => absurd (hl_strokes R (xs (8 * k + 1)) (xs (8 * k + 2)) (hl_z (xs (8 * k + 3))) (xs (8 * k + 4)) (cols 19)) q)
