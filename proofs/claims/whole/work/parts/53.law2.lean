section HlRows
variable {p : Program} {l : Launch} {e : Env} {R : Room} {s : State} {m : MethodId} {args : Array Value} {below : List Frame} {meth : Method} {c : Code} {Q : State → Prop} {nL cells slots : Nat} {D : va_G} {cl : List vw_C} {A : Nat → Prop} {H0 : Heap} {pc : Nat} {lv : List (Nat × Value)} {ws ws' : va_W} {rest st : List Value} {cc : ByteArray} {own : String} {tys : List (ClassId × FieldType)}
theorem hv_sld (h : hsX p m c cc nL s args own D cl tys A H0) {b L : Nat} {xs : Nat → Int32} (hX : va_X b L xs s H0) (hbl : b < H0.size) (hbA : ¬ A b) {i v : Int32} (hin : vp_in i L) (hv : xs i.toNatClampNeg = v) (hdg : decode cc pc = .ok (.iaload, 1)) (k : hsV p l e R s m args below meth c Q nL D cl A H0 cells slots (pc + 1) lv ws (.int v :: rest)) : hsV p l e R s m args below meth c Q nL D cl A H0 cells slots pc lv ws (.int i :: .ref b :: rest) := fun H locs ls hl hP hD hS => va_sld h.1.1 h.1.2.1 hX hbl hbA hS hin hdg (by rw [hv]; exact k H locs ls hl hP hD hS)
theorem hv_slen (h : hsX p m c cc nL s args own D cl tys A H0) {b L : Nat} {xs : Nat → Int32} (hX : va_X b L xs s H0) (hbl : b < H0.size) (hbA : ¬ A b) (hdg : decode cc pc = .ok (.arraylength, 1)) (k : hsV p l e R s m args below meth c Q nL D cl A H0 cells slots (pc + 1) lv ws (.int (nI L) :: rest)) : hsV p l e R s m args below meth c Q nL D cl A H0 cells slots pc lv ws (.ref b :: rest) := fun H locs ls hl hP hD hS => va_slen h.1.1 h.1.2.1 hX hbl hbA hS hdg (k H locs ls hl hP hD hS)
theorem hs_conv (hP' : ∀ H, va_P D cl ws H → va_P D cl ws' H) (hD' : va_D A ws → va_D A ws') (k : hsV p l e R s m args below meth c Q nL D cl A H0 cells slots pc lv ws' st) : hsV p l e R s m args below meth c Q nL D cl A H0 cells slots pc lv ws st := fun H locs ls hl hP hD hS => k H locs ls hl (hP' H hP) (hD' hD) hS
theorem hl_addr (hm : ws.map (fun q => q.1) = ws'.map (fun q => q.1)) (h : va_D A ws) : va_D A ws' := by
  have key : ∀ (i : Nat) (q : Nat × va_E), ws'[i]? = some q → ∃ q0, ws[i]? = some q0 ∧ q0.1 = q.1 := by
    intro i q hq
    have e : (ws.map (fun q => q.1))[i]? = some q.1 := by rw [hm, List.getElem?_map, hq]; rfl
    rw [List.getElem?_map] at e
    cases hw : ws[i]? with
    | none => rw [hw] at e; cases e
    | some q0 => rw [hw] at e; exact ⟨q0, rfl, Option.some.inj e⟩
  refine ⟨fun i j p q hi hj hpq => ?_, fun k q hk => ?_⟩
  · obtain ⟨p0, a1, a2⟩ := key i p hi
    obtain ⟨q0, b1, b2⟩ := key j q hj
    exact h.1 i j p0 q0 a1 b1 (by rw [a2, b2, hpq])
  · obtain ⟨q0, b1, b2⟩ := key k q hk
    rw [← b2]
    exact h.2 k q0 b1
theorem arrV_congr {cA : ClassId} {n : Nat} {f g : Nat → Value} (h : ∀ i, i < n → f i = g i) : arrV cA n f = arrV cA n g := by
  have e : (fun j : Fin n => f j.val) = fun j => g j.val := funext fun j => h j.val j.isLt
  unfold arrV
  rw [e]
theorem hl_cell {cA : ClassId} {n : Nat} {F G : Nat → Option Nat} (h : ∀ i, i < n → F i = G i) : vp_cell cA (n, .inr (.inr (.inr (.inr F)))) = vp_cell cA (n, .inr (.inr (.inr (.inr G)))) := by
  rw [vp_cell_q, vp_cell_q]
  exact arrV_congr (fun i hi => by rw [h i hi])
theorem hl_swapq {x0 x2 x3 : Nat × va_E} {a1 a4 : Nat} {cA : ClassId} {F G F' G' : Nat → Option Nat} {tl : va_W} {H : Heap} (h1 : ∀ i, i < 6 → F i = G i) (h2 : ∀ i, i < 12 → F' i = G' i) (h : va_P D cl (x0 :: (a1, .inl (cA, 6, .inr (.inr (.inr (.inr F))))) :: x2 :: x3 :: (a4, .inl (cA, 12, .inr (.inr (.inr (.inr F'))))) :: tl) H) : va_P D cl (x0 :: (a1, .inl (cA, 6, .inr (.inr (.inr (.inr G))))) :: x2 :: x3 :: (a4, .inl (cA, 12, .inr (.inr (.inr (.inr G'))))) :: tl) H := by
  intro k q hk
  rcases k with _ | _ | _ | _ | _ | k
  · exact h 0 q hk
  · cases hk
    have := h 1 _ rfl
    show H[a1]? = some (vp_cell cA _)
    rw [← hl_cell h1]
    exact this
  · exact h 2 q hk
  · exact h 3 q hk
  · cases hk
    have := h 4 _ rfl
    show H[a4]? = some (vp_cell cA _)
    rw [← hl_cell h2]
    exact this
  · exact h (k + 5) q hk
end HlRows
