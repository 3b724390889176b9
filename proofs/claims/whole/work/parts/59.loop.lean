theorem hl_init : hsRel (fun _ _ => 0) (fun i => i) (fun j => 6 + j) 18 (fun _ => 0) 0 0 0 (fun _ => 0) (fun _ => 0) (fun _ => 0) (fun _ _ _ => 0) := by
  refine ⟨by decide, by decide, ⟨fun s hs => ?_, fun j hj => ?_, by decide, fun s t hs ht e => e, fun j k hj hk e => ?_, fun s j hs hj e => ?_, fun s hs e => ?_, fun j hj e => ?_⟩, fun j hj => absurd hj (Nat.not_lt_zero j), fun s i hs hi => ⟨rfl, rfl⟩, fun k s i hk hs hi => hb_lo_0 12, fun j i hj => absurd hj (Nat.not_lt_zero j), fun j s i hj => absurd hj (Nat.not_lt_zero j), fun j i hj => absurd hj (Nat.not_lt_zero j), fun j i h1 h2 => absurd h2 (Nat.not_lt_zero j)⟩
  all_goals (try dsimp only at *)
  all_goals omega
section HlLoop
variable {p : Program} {l : Launch} {e : Env} {s : State} {m : MethodId} {below : List Frame} {meth : Method} {c : Code} {Q : State → Prop} {D : va_G} {A : Nat → Prop} {cI cC : ClassId} {b L : Nat} {H0 : Heap} {xs : Nat → Int32} {g : Nat → Nat}
set_option maxHeartbeats 4000000 in
set_option maxRecDepth 100000 in
theorem hl_switch {k : Nat} {cols : Nat → Nat → Int32} {sol oth : Nat → Nat} {out : Nat} {num : Nat → Int32} {o d t : Nat} {X : HF} {bi wh : Nat → Int32} {Y : HF} {bo : Bool} {w : Nat → Nat} {S : Nat → Nat → Nat → Int32} (h : hsX p m c code 4 s #[Value.ref b] RXL D vwCl (hsT cI cC) A H0) (hX : va_X b L xs s H0) (hbl : b < H0.size) (hbA : ¬ A b) (hL : L ≤ 4096) (hk : 8 * k + 8 ≤ L) (R : hsRel cols sol oth out num o d t bi wh w S) (K : hlK p l e s m below meth c Q D A H0 cI cC b k g) {j : Nat} (hj : j < 32) : hsV p l e room_1 s m #[Value.ref b] below meth c Q 4 D vwCl A H0 53 11171 33 (hlL b k (g 0) (g 8)) (hlW g cI cC cols sol oth out num o d t X bi wh Y bo) [.int (nI j)] := by
  by_cases h20 : 20 < j
  · exact hv_tableOut h 1051 dXL_law_33 (Or.inr (by rw [nI_toInt (by omega)]; omega)) rfl (K _ _ _ _ _ _ _ _ X _ _ Y bo _ _ R)
  · have h1 : ¬ (nI j).toInt < 0 := by rw [nI_toInt (by omega)]; omega
    have h2 : ¬ 20 < (nI j).toInt := by rw [nI_toInt (by omega)]; omega
    have e3 : ((nI j).toInt - 0).toNat = j := by rw [nI_toInt (by omega)]; omega
    have T : ∀ (off : Int) (tgt : Nat), (#[99, 186, 239, 272, 305, 358, 433, 446, 459, 482, 505, 528, 551, 574, 607, 650, 703, 746, 779, 858, 949] : Array Int)[j]? = some off → ((33 : Nat) : Int) + off = (tgt : Int) → hsV p l e room_1 s m #[Value.ref b] below meth c Q 4 D vwCl A H0 53 11171 tgt (hlL b k (g 0) (g 8)) (hlW g cI cC cols sol oth out num o d t X bi wh Y bo) [] → hsV p l e room_1 s m #[Value.ref b] below meth c Q 4 D vwCl A H0 53 11171 33 (hlL b k (g 0) (g 8)) (hlW g cI cC cols sol oth out num o d t X bi wh Y bo) [.int (nI j)] := fun off tgt ho ht kk => hv_tableIn h tgt dXL_law_33 h1 h2 (by rw [e3]; exact ho) ht kk
    clear h1 h2 e3
    rcases j with _ | _ | _ | _ | _ | _ | _ | _ | _ | _ | _ | _ | _ | _ | _ | _ | _ | _ | _ | _ | _ | j
    · exact T 99 132 rfl rfl (hl_c_box h hX hbl hbA hL hk R K)
    · exact T 186 219 rfl rfl (hl_c_join h hX hbl hbA hL hk R K)
    · exact T 239 272 rfl rfl (hl_c_turn h hX hbl hbA hL hk R K)
    · exact T 272 305 rfl rfl (hl_c_mirror h hX hbl hbA hL hk R K)
    · exact T 305 338 rfl rfl (hl_c_shift h hX hbl hbA hL hk R K)
    · exact T 358 391 rfl rfl (hl_c_sweep h hX hbl hbA hL hk R K)
    · exact T 433 466 rfl rfl (hl_c_undo h hX hbl hbA hL hk R K)
    · exact T 446 479 rfl rfl (hl_c_redo h hX hbl hbA hL hk R K)
    · exact T 459 492 rfl rfl (hl_c_volume h hX hbl hbA hL hk R K)
    · exact T 482 515 rfl rfl (hl_c_sides h hX hbl hbA hL hk R K)
    · exact T 505 538 rfl rfl (hl_c_edges h hX hbl hbA hL hk R K)
    · exact T 528 561 rfl rfl (hl_c_pieces h hX hbl hbA hL hk R K)
    · exact T 551 584 rfl rfl (hl_c_hollows h hX hbl hbA hL hk R K)
    · exact T 574 607 rfl rfl (hl_c_moment h hX hbl hbA hL hk R K)
    · exact T 607 640 rfl rfl (hl_c_extent h hX hbl hbA hL hk R K)
    · exact T 650 683 rfl rfl (hl_c_inside h hX hbl hbA hL hk R K)
    · exact T 703 736 rfl rfl (hl_c_section h hX hbl hbA hL hk R K)
    · exact T 746 779 rfl rfl (hl_c_same h hX hbl hbA hL hk R K)
    · exact T 779 812 rfl rfl (hl_c_depth h hX hbl hbA hL hk R K)
    · exact T 858 891 rfl rfl (hl_c_stroke h hX hbl hbA hL hk R K)
    · exact T 949 982 rfl rfl (hl_c_strokes h hX hbl hbA hL hk R K)
    · omega
theorem hl_loop (h : hsX p m c code 4 s #[Value.ref b] RXL D vwCl (hsT cI cC) A H0) (hX : va_X b L xs s H0) (hbl : b < H0.size) (hbA : ¬ A b) (hL : L ≤ 4096) (E : ∀ (lv : List (Nat × Value)) (ws : va_W), hsV p l e room_1 s m #[Value.ref b] below meth c Q 4 D vwCl A H0 53 11171 1057 lv ws []) : ∀ (n k : Nat), L + 8 ≤ 8 * k + n → 8 * k ≤ L + 8 → ∀ (cols : Nat → Nat → Int32) (sol oth : Nat → Nat) (out : Nat) (num : Nat → Int32) (o d t : Nat) (X : HF) (bi wh : Nat → Int32) (Y : HF) (bo : Bool) (w : Nat → Nat) (S : Nat → Nat → Nat → Int32), hsRel cols sol oth out num o d t bi wh w S → hsV p l e room_1 s m #[Value.ref b] below meth c Q 4 D vwCl A H0 53 11171 18 (hlL b k (g 0) (g 8)) (hlW g cI cC cols sol oth out num o d t X bi wh Y bo) [] := by
  intro n
  induction n with
  | zero =>
    intro k h1 h2 cols sol oth out num o d t X bi wh Y bo w S R
    refine hv_iload_n h dXL_law_18 0 rfl rfl ?_
    refine hv_aload_n h dXL_law_19 3 rfl rfl ?_
    refine hv_slen h hX hbl hbA dXL_law_20 ?_
    refine hv_bipush h (nI 8) dXL_law_21 (by decide) ?_
    refine hv_isub h dXL_law_23 ?_
    refine hv_icmp_gt h 1057 dXL_law_24 rfl (fun _ => E _ _) (fun q => absurd ?_ q)
    rw [Int32.lt_iff_toInt_lt, pk_sub_toInt (by omega) (by decide), nI_toInt (by omega)]
    omega
  | succ n ih =>
    intro k h1 h2 cols sol oth out num o d t X bi wh Y bo w S R
    refine hv_iload_n h dXL_law_18 0 rfl rfl ?_
    refine hv_aload_n h dXL_law_19 3 rfl rfl ?_
    refine hv_slen h hX hbl hbA dXL_law_20 ?_
    refine hv_bipush h (nI 8) dXL_law_21 (by decide) ?_
    refine hv_isub h dXL_law_23 ?_
    refine hv_icmp_gt h 1057 dXL_law_24 rfl (fun _ => E _ _) (fun q => ?_)
    have hk : 8 * k + 8 ≤ L := by
      rw [Int32.lt_iff_toInt_lt, pk_sub_toInt (by omega) (by decide), nI_toInt (by omega)] at q
      omega
    refine hv_aload_n h dXL_law_27 3 rfl rfl ?_
    refine hv_iload_n h dXL_law_28 0 rfl rfl ?_
    refine hv_sld h hX hbl hbA (vp_in_nI (show 8 * k < L by omega) (by omega)) (v := xs (8 * k)) (by rw [nI_clamp (by omega)]) dXL_law_29 ?_
    refine hv_bipush h 31 dXL_law_30 (by decide) ?_
    obtain ⟨j, hj, ej⟩ := pk_andE (xs (8 * k)) (m := 31) 5 (by decide)
    refine hw_iand h (nI j) dXL_law_32 ej ?_
    refine hl_switch h hX hbl hbA hL hk R ?_ hj
    intro cols sol oth out num o d t X bi wh Y bo w S R
    refine hv_iinc h (nI (8 * (k + 1))) (hlL b (k + 1) (g 0) (g 8)) dXL_law_1051 0 rfl ?_ (by decide) rfl ?_
    · show nI (8 * k) + nI 8 = _
      rw [nI_add, Nat.mul_succ]
    · exact hv_goto h 18 dXL_law_1054 rfl (ih (k + 1) (by omega) (by omega) cols sol oth out num o d t X bi wh Y bo w S R)
end HlLoop
