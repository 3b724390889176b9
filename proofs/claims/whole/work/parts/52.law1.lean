set_option maxRecDepth 100000 in
theorem hl_nf : ∀ q ∈ hsNF, Cond.fieldLinkNest q.1 q.2.1 q.2.2.1 q.2.2.2.1 q.2.2.2.2.1 q.2.2.2.2.2 ∈ lw_tbl := by decide +kernel
set_option maxRecDepth 100000 in
theorem hl_nm : ∀ q ∈ hsNM, Cond.methodLinkNest q.1 q.2.1 q.2.2.1 q.2.2.2 ∈ lw_tbl := by decide +kernel
set_option maxRecDepth 100000 in
theorem hl_ao : Cond.arrayOver (.object "HewnSolids$Cells") ∈ lw_tbl := by decide +kernel
theorem hl_X {p : Program} {s : State} {m : MethodId} {meth : Method} {c : Code} {b L : Nat} {xs : Nat → Int32} (C0 : lw_At p s m meth c b L xs) : ∃ (cI cC : ClassId) (D : va_G), hsX p m c code 4 s #[Value.ref b] RXL D vwCl (hsT cI cC) (fun q => s.heap.size ≤ q) s.heap := by
  obtain ⟨h1, h2, h3, h4, h5, hts, -⟩ := C0
  have hall : ∀ w ∈ hsAll, w.before #[Value.ref b] s = true := fun w hw => hts w (hs_all hw)
  obtain ⟨cI, kI, pI, i1, i2, i3⟩ := Cond.arrayClass_spec (hall _ w_arrayClass)
  obtain ⟨pC, cC, kC, q1, q2, q3, q4, q5⟩ := Cond.arrayOver_spec (hts _ hl_ao)
  obtain ⟨c0, f0, g0⟩ := u_known hall wu_X0 (hall _ w_instantiable_X0)
  obtain ⟨c1, f1, g1⟩ := u_known hall wu_X1 (hall _ w_instantiable_X1)
  obtain ⟨c2, f2, g2⟩ := u_known hall wu_X2 (hall _ w_instantiable_X2)
  obtain ⟨c3, f3, g3⟩ := u_known hall wu_X3 (hall _ w_instantiable_X3)
  obtain ⟨c4, f4, g4⟩ := u_known hall wu_X4 (hall _ w_instantiable_X4)
  refine ⟨cI, cC, (fun k => if k = 0 then c0 else if k = 1 then c1 else if k = 2 then c2 else if k = 3 then c3 else c4, fun k => if k = 0 then f0 else if k = 1 then f1 else if k = 2 then f2 else if k = 3 then f3 else f4), ⟨h1, h2, h4, h5, hall⟩, ⟨fun k q hk => ?_, fun k q hk => ?_⟩, fun _ h => h, ⟨⟨fun q hq => va_Nw.of rfl (hts _ (hl_nf q hq)), fun q hq => va_Nw.of rfl (hts _ (hl_nm q hq))⟩, va_AO.of (hts _ hl_ao)⟩⟩
  · rcases k with _ | _ | _ | _ | _ | k
    · cases hk; exact g0
    · cases hk; exact g1
    · cases hk; exact g2
    · cases hk; exact g3
    · cases hk; exact g4
    · cases hk
  · rcases k with _ | _ | k
    · cases hk
      exact ⟨fun n z => ⟨fun k h => (by cases h), kI, i2, pI, i3⟩, i1⟩
    · cases hk
      exact ⟨fun n z => ⟨fun k h => (by cases h), kC, q3, pC, q4⟩, kC, pC, q3, q4, q1, q5⟩
    · cases hk
