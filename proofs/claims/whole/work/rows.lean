section
-- ===== PART A: goes FIRST, ahead of the names: the tables' words, and 'selects' of the private methods out of them =====
/-- a private method of a class that the tables say can be made, by its rows of tables_1 -/
def lw_okq (q : MethodName × Nat) : Prop := (q.1.cls ≠ "java/lang/invoke/MethodHandle" ∧ q.1.cls ≠ "java/lang/invoke/VarHandle") ∧ Cond.instantiable q.1.cls q.2 ∈ tables_1 ∧ Cond.privateMethod q.1 ∈ tables_1 ∧ Cond.instanceMethod q.1 ∈ tables_1
theorem lw_p0 : lw_okq (⟨"HewnSolids", "takeStep", "(I)I"⟩, 5) := ⟨⟨by decide +kernel, by decide +kernel⟩, List.mem_of_getElem? (i := 8) (by decide +kernel), List.mem_of_getElem? (i := 105) (by decide +kernel), List.mem_of_getElem? (i := 106) (by decide +kernel)⟩
theorem lw_p1 : lw_okq (⟨"HewnSolids$Steps", "exchange", "([LHewnSolids$Cells;I)I"⟩, 5) := ⟨⟨by decide +kernel, by decide +kernel⟩, List.mem_of_getElem? (i := 29) (by decide +kernel), List.mem_of_getElem? (i := 217) (by decide +kernel), List.mem_of_getElem? (i := 218) (by decide +kernel)⟩
theorem lw_p2 : lw_okq (⟨"HewnSolids$Flood", "countLeft", "()I"⟩, 3) := ⟨⟨by decide +kernel, by decide +kernel⟩, List.mem_of_getElem? (i := 53) (by decide +kernel), List.mem_of_getElem? (i := 264) (by decide +kernel), List.mem_of_getElem? (i := 265) (by decide +kernel)⟩
theorem lw_p3 : lw_okq (⟨"HewnSolids$Flood", "countFrom", "(II)I"⟩, 3) := ⟨⟨by decide +kernel, by decide +kernel⟩, List.mem_of_getElem? (i := 53) (by decide +kernel), List.mem_of_getElem? (i := 268) (by decide +kernel), List.mem_of_getElem? (i := 269) (by decide +kernel)⟩
theorem lw_p4 : lw_okq (⟨"HewnSolids$Flood", "take", "(III)V"⟩, 3) := ⟨⟨by decide +kernel, by decide +kernel⟩, List.mem_of_getElem? (i := 53) (by decide +kernel), List.mem_of_getElem? (i := 272) (by decide +kernel), List.mem_of_getElem? (i := 273) (by decide +kernel)⟩
theorem lw_p5 : lw_okq (⟨"HewnSolids$Flood", "spread", "()V"⟩, 3) := ⟨⟨by decide +kernel, by decide +kernel⟩, List.mem_of_getElem? (i := 53) (by decide +kernel), List.mem_of_getElem? (i := 277) (by decide +kernel), List.mem_of_getElem? (i := 278) (by decide +kernel)⟩
theorem lw_p6 : lw_okq (⟨"HewnSolids$Flood", "dropFromBorder", "()V"⟩, 3) := ⟨⟨by decide +kernel, by decide +kernel⟩, List.mem_of_getElem? (i := 53) (by decide +kernel), List.mem_of_getElem? (i := 289) (by decide +kernel), List.mem_of_getElem? (i := 290) (by decide +kernel)⟩
theorem lw_p7 : lw_okq (⟨"HewnSolids$Cells", "countPair", "(III)I"⟩, 1) := ⟨⟨by decide +kernel, by decide +kernel⟩, List.mem_of_getElem? (i := 17) (by decide +kernel), List.mem_of_getElem? (i := 313) (by decide +kernel), List.mem_of_getElem? (i := 314) (by decide +kernel)⟩
theorem lw_p8 : lw_okq (⟨"HewnSolidsModel", "copy", "(II)V"⟩, 8) := ⟨⟨by decide +kernel, by decide +kernel⟩, List.mem_of_getElem? (i := 364) (by decide +kernel), List.mem_of_getElem? (i := 399) (by decide +kernel), List.mem_of_getElem? (i := 400) (by decide +kernel)⟩
theorem lw_p9 : lw_okq (⟨"HewnSolidsModel", "clearDraft", "()V"⟩, 8) := ⟨⟨by decide +kernel, by decide +kernel⟩, List.mem_of_getElem? (i := 364) (by decide +kernel), List.mem_of_getElem? (i := 417) (by decide +kernel), List.mem_of_getElem? (i := 418) (by decide +kernel)⟩
theorem lw_p10 : lw_okq (⟨"HewnSolidsModel", "put", "(III)V"⟩, 8) := ⟨⟨by decide +kernel, by decide +kernel⟩, List.mem_of_getElem? (i := 364) (by decide +kernel), List.mem_of_getElem? (i := 421) (by decide +kernel), List.mem_of_getElem? (i := 422) (by decide +kernel)⟩
theorem lw_p11 : lw_okq (⟨"HewnSolidsModel", "step", "(I)I"⟩, 8) := ⟨⟨by decide +kernel, by decide +kernel⟩, List.mem_of_getElem? (i := 364) (by decide +kernel), List.mem_of_getElem? (i := 425) (by decide +kernel), List.mem_of_getElem? (i := 426) (by decide +kernel)⟩
theorem lw_p12 : lw_okq (⟨"HewnSolidsModel", "count", "(I)I"⟩, 8) := ⟨⟨by decide +kernel, by decide +kernel⟩, List.mem_of_getElem? (i := 364) (by decide +kernel), List.mem_of_getElem? (i := 429) (by decide +kernel), List.mem_of_getElem? (i := 430) (by decide +kernel)⟩
theorem lw_p13 : lw_okq (⟨"HewnSolidsModel", "has", "(IIII)Z"⟩, 8) := ⟨⟨by decide +kernel, by decide +kernel⟩, List.mem_of_getElem? (i := 364) (by decide +kernel), List.mem_of_getElem? (i := 437) (by decide +kernel), List.mem_of_getElem? (i := 438) (by decide +kernel)⟩
theorem lw_p14 : lw_okq (⟨"HewnSolidsModel", "hasBy", "(IIIII)Z"⟩, 8) := ⟨⟨by decide +kernel, by decide +kernel⟩, List.mem_of_getElem? (i := 364) (by decide +kernel), List.mem_of_getElem? (i := 463) (by decide +kernel), List.mem_of_getElem? (i := 464) (by decide +kernel)⟩
theorem lw_p15 : lw_okq (⟨"HewnSolidsModel", "isEdge", "(IIIII)Z"⟩, 8) := ⟨⟨by decide +kernel, by decide +kernel⟩, List.mem_of_getElem? (i := 364) (by decide +kernel), List.mem_of_getElem? (i := 479) (by decide +kernel), List.mem_of_getElem? (i := 480) (by decide +kernel)⟩
def lw_privs_1 : List (MethodName × Nat) := [(⟨"HewnSolids", "takeStep", "(I)I"⟩, 5), (⟨"HewnSolids$Steps", "exchange", "([LHewnSolids$Cells;I)I"⟩, 5), (⟨"HewnSolids$Flood", "countLeft", "()I"⟩, 3), (⟨"HewnSolids$Flood", "countFrom", "(II)I"⟩, 3), (⟨"HewnSolids$Flood", "take", "(III)V"⟩, 3), (⟨"HewnSolids$Flood", "spread", "()V"⟩, 3), (⟨"HewnSolids$Flood", "dropFromBorder", "()V"⟩, 3), (⟨"HewnSolids$Cells", "countPair", "(III)I"⟩, 1), (⟨"HewnSolidsModel", "copy", "(II)V"⟩, 8), (⟨"HewnSolidsModel", "clearDraft", "()V"⟩, 8), (⟨"HewnSolidsModel", "put", "(III)V"⟩, 8), (⟨"HewnSolidsModel", "step", "(I)I"⟩, 8), (⟨"HewnSolidsModel", "count", "(I)I"⟩, 8), (⟨"HewnSolidsModel", "has", "(IIII)Z"⟩, 8), (⟨"HewnSolidsModel", "hasBy", "(IIIII)Z"⟩, 8), (⟨"HewnSolidsModel", "isEdge", "(IIIII)Z"⟩, 8)]
theorem lw_r1 : ∀ q ∈ lw_privs_1, lw_okq q := List.forall_mem_cons.mpr ⟨lw_p0, List.forall_mem_cons.mpr ⟨lw_p1, List.forall_mem_cons.mpr ⟨lw_p2, List.forall_mem_cons.mpr ⟨lw_p3, List.forall_mem_cons.mpr ⟨lw_p4, List.forall_mem_cons.mpr ⟨lw_p5, List.forall_mem_cons.mpr ⟨lw_p6, List.forall_mem_cons.mpr ⟨lw_p7, List.forall_mem_cons.mpr ⟨lw_p8, List.forall_mem_cons.mpr ⟨lw_p9, List.forall_mem_cons.mpr ⟨lw_p10, List.forall_mem_cons.mpr ⟨lw_p11, List.forall_mem_cons.mpr ⟨lw_p12, List.forall_mem_cons.mpr ⟨lw_p13, List.forall_mem_cons.mpr ⟨lw_p14, List.forall_mem_cons.mpr ⟨lw_p15, fun _ h => absurd h List.not_mem_nil⟩⟩⟩⟩⟩⟩⟩⟩⟩⟩⟩⟩⟩⟩⟩⟩
theorem lw_p16 : lw_okq (⟨"HewnSolidsModel", "sets", "(IZ)I"⟩, 8) := ⟨⟨by decide +kernel, by decide +kernel⟩, List.mem_of_getElem? (i := 364) (by decide +kernel), List.mem_of_getElem? (i := 487) (by decide +kernel), List.mem_of_getElem? (i := 488) (by decide +kernel)⟩
theorem lw_p17 : lw_okq (⟨"HewnSolidsModel", "see", "(IZIII)V"⟩, 8) := ⟨⟨by decide +kernel, by decide +kernel⟩, List.mem_of_getElem? (i := 364) (by decide +kernel), List.mem_of_getElem? (i := 491) (by decide +kernel), List.mem_of_getElem? (i := 492) (by decide +kernel)⟩
theorem lw_p18 : lw_okq (⟨"HewnSolidsModel", "spread", "(IZ)V"⟩, 8) := ⟨⟨by decide +kernel, by decide +kernel⟩, List.mem_of_getElem? (i := 364) (by decide +kernel), List.mem_of_getElem? (i := 495) (by decide +kernel), List.mem_of_getElem? (i := 496) (by decide +kernel)⟩
theorem lw_p19 : lw_okq (⟨"HewnSolidsModel", "countAt", "(III)I"⟩, 8) := ⟨⟨by decide +kernel, by decide +kernel⟩, List.mem_of_getElem? (i := 364) (by decide +kernel), List.mem_of_getElem? (i := 510) (by decide +kernel), List.mem_of_getElem? (i := 511) (by decide +kernel)⟩
theorem lw_p20 : lw_okq (⟨"HewnSolidsModel", "depthOf", "(IIZII)I"⟩, 8) := ⟨⟨by decide +kernel, by decide +kernel⟩, List.mem_of_getElem? (i := 364) (by decide +kernel), List.mem_of_getElem? (i := 534) (by decide +kernel), List.mem_of_getElem? (i := 535) (by decide +kernel)⟩
theorem lw_p21 : lw_okq (⟨"HewnSolidsModel", "strokeOf", "(IIZIII)I"⟩, 8) := ⟨⟨by decide +kernel, by decide +kernel⟩, List.mem_of_getElem? (i := 364) (by decide +kernel), List.mem_of_getElem? (i := 542) (by decide +kernel), List.mem_of_getElem? (i := 543) (by decide +kernel)⟩
theorem lw_p22 : lw_okq (⟨"HewnSolidsModel", "isEdgeAt", "(IIIIII)Z"⟩, 8) := ⟨⟨by decide +kernel, by decide +kernel⟩, List.mem_of_getElem? (i := 364) (by decide +kernel), List.mem_of_getElem? (i := 546) (by decide +kernel), List.mem_of_getElem? (i := 547) (by decide +kernel)⟩
def lw_privs_2 : List (MethodName × Nat) := [(⟨"HewnSolidsModel", "sets", "(IZ)I"⟩, 8), (⟨"HewnSolidsModel", "see", "(IZIII)V"⟩, 8), (⟨"HewnSolidsModel", "spread", "(IZ)V"⟩, 8), (⟨"HewnSolidsModel", "countAt", "(III)I"⟩, 8), (⟨"HewnSolidsModel", "depthOf", "(IIZII)I"⟩, 8), (⟨"HewnSolidsModel", "strokeOf", "(IIZIII)I"⟩, 8), (⟨"HewnSolidsModel", "isEdgeAt", "(IIIIII)Z"⟩, 8)]
theorem lw_r2 : ∀ q ∈ lw_privs_2, lw_okq q := List.forall_mem_cons.mpr ⟨lw_p16, List.forall_mem_cons.mpr ⟨lw_p17, List.forall_mem_cons.mpr ⟨lw_p18, List.forall_mem_cons.mpr ⟨lw_p19, List.forall_mem_cons.mpr ⟨lw_p20, List.forall_mem_cons.mpr ⟨lw_p21, List.forall_mem_cons.mpr ⟨lw_p22, fun _ h => absurd h List.not_mem_nil⟩⟩⟩⟩⟩⟩⟩
def lw_privs : List (MethodName × Nat) := lw_privs_1 ++ (lw_privs_2)
def lw_tbl : List Cond := k2_sels lw_privs ++ tables_1
theorem lw_privs_ok : ∀ q ∈ lw_privs, lw_okq q := by
  show ∀ q ∈ lw_privs_1 ++ (lw_privs_2), lw_okq q
  exact List.forall_mem_append.mpr ⟨lw_r1, lw_r2⟩
def RX0 : String := "HewnSolids"
def TX0 : u_T := fun k => match k with
  | 0 => ("HewnSolids", "solids", "[LHewnSolids$Cells;", true)
  | 1 => ("HewnSolids", "steps", "LHewnSolids$Steps;", true)
  | 2 => ("HewnSolids", "view", "LHewnSolids$Cells;", true)
  | 3 => ("HewnSolids", "flood", "LHewnSolids$Flood;", true)
  | _ => ("HewnSolids", "outcome", "LHewnSolids$Cells;", false)
def tyX0 : Nat → FieldType := fun k => match k with
  | 0 => .array (.object "HewnSolids$Cells")
  | 1 => .object "HewnSolids$Steps"
  | 2 => .object "HewnSolids$Cells"
  | 3 => .object "HewnSolids$Flood"
  | _ => .object "HewnSolids$Cells"
theorem nX0 : ∀ a, a < 5 → ∀ b, b < 5 → a ≠ b → (TX0 a).2.1 ≠ (TX0 b).2.1 := by decide +kernel
theorem tyX0_ok : ∀ k, k < 5 → parseFieldDescriptor (TX0 k).2.2.1 = some (tyX0 k) := by decide +kernel
def RX1 : String := "HewnSolids$Cells"
def TX1 : u_T := fun k => match k with
  | _ => ("HewnSolids$Cells", "columns", "[I", true)
def tyX1 : Nat → FieldType := fun k => match k with
  | _ => .array .int
theorem nX1 : ∀ a, a < 1 → ∀ b, b < 1 → a ≠ b → (TX1 a).2.1 ≠ (TX1 b).2.1 := by decide +kernel
theorem tyX1_ok : ∀ k, k < 1 → parseFieldDescriptor (TX1 k).2.2.1 = some (tyX1 k) := by decide +kernel
def RX2 : String := "HewnSolids$Steps"
def TX2 : u_T := fun k => match k with
  | 0 => ("HewnSolids$Steps", "numbers", "[I", true)
  | 1 => ("HewnSolids$Steps", "others", "[LHewnSolids$Cells;", true)
  | 2 => ("HewnSolids$Steps", "oldest", "I", false)
  | 3 => ("HewnSolids$Steps", "done", "I", false)
  | _ => ("HewnSolids$Steps", "takenBack", "I", false)
def tyX2 : Nat → FieldType := fun k => match k with
  | 0 => .array .int
  | 1 => .array (.object "HewnSolids$Cells")
  | 2 => .int
  | 3 => .int
  | _ => .int
theorem nX2 : ∀ a, a < 5 → ∀ b, b < 5 → a ≠ b → (TX2 a).2.1 ≠ (TX2 b).2.1 := by decide +kernel
theorem tyX2_ok : ∀ k, k < 5 → parseFieldDescriptor (TX2 k).2.2.1 = some (tyX2 k) := by decide +kernel
def RX3 : String := "HewnSolids$Flood"
def TX3 : u_T := fun k => match k with
  | 0 => ("HewnSolids$Flood", "left", "[I", true)
  | 1 => ("HewnSolids$Flood", "taken", "[I", true)
  | _ => ("HewnSolids$Flood", "end", "I", false)
def tyX3 : Nat → FieldType := fun k => match k with
  | 0 => .array .int
  | 1 => .array .int
  | _ => .int
theorem nX3 : ∀ a, a < 3 → ∀ b, b < 3 → a ≠ b → (TX3 a).2.1 ≠ (TX3 b).2.1 := by decide +kernel
theorem tyX3_ok : ∀ k, k < 3 → parseFieldDescriptor (TX3 k).2.2.1 = some (tyX3 k) := by decide +kernel
def RX4 : String := "HewnSolidsModel"
def TX4 : u_T := fun k => match k with
  | 0 => ("HewnSolidsModel", "bits", "[I", true)
  | 1 => ("HewnSolidsModel", "done", "I", false)
  | 2 => ("HewnSolidsModel", "all", "I", false)
  | 3 => ("HewnSolidsModel", "whose", "[I", true)
  | 4 => ("HewnSolidsModel", "seen", "[I", true)
  | 5 => ("HewnSolidsModel", "top", "I", false)
  | 6 => ("HewnSolidsModel", "pile", "[I", true)
  | _ => ("HewnSolidsModel", "border", "Z", false)
def tyX4 : Nat → FieldType := fun k => match k with
  | 0 => .array .int
  | 1 => .int
  | 2 => .int
  | 3 => .array .int
  | 4 => .array .int
  | 5 => .int
  | 6 => .array .int
  | _ => .boolean
theorem nX4 : ∀ a, a < 8 → ∀ b, b < 8 → a ≠ b → (TX4 a).2.1 ≠ (TX4 b).2.1 := by decide +kernel
theorem tyX4_ok : ∀ k, k < 8 → parseFieldDescriptor (TX4 k).2.2.1 = some (tyX4 k) := by decide +kernel
def RX5 : String := "java/lang/Integer"
def RXL : String := "HewnSolidsLaw"
abbrev vwCl : List vw_C := [(RX0, TX0, 5), (RX1, TX1, 1), (RX2, TX2, 5), (RX3, TX3, 3), (RX4, TX4, 8)]
abbrev hsHi : Nat := 0
abbrev hsCi : Nat := 1
abbrev hsSi : Nat := 2
abbrev hsFi : Nat := 3
abbrev hsMi : Nat := 4
abbrev hsT (cI cC : ClassId) : List (ClassId × FieldType) := [(cI, .int), (cC, .object "HewnSolids$Cells")]
def hsAll : List Cond := lw_tbl.filter goodWord
theorem hs_all {w : Cond} (h : w ∈ hsAll) : w ∈ lw_tbl := (List.mem_filter.mp h).1
theorem hs_all_good {w : Cond} (h : w ∈ hsAll) : (w.onTables && w.keeps) = true ∨ ∃ ty, w = .arrayClass ty := good_of_word (List.mem_filter.mp h).2
theorem hs_in {w : Cond} (i : Nat) (h : lw_tbl[i]? = some w) (hg : goodWord w = true) : w ∈ hsAll := List.mem_filter.mpr ⟨List.mem_of_getElem? h, hg⟩
abbrev cX0_init : ByteArray := prog_1_method_1_code
def yX0_init : MethodName := ⟨RX0, "<init>", "()V"⟩
abbrev wsX0_init : List Cond := Cond.code yX0_init cX0_init 2 none :: hsAll
abbrev cX1_init : ByteArray := prog_2_method_1_code
def yX1_init : MethodName := ⟨RX1, "<init>", "()V"⟩
abbrev wsX1_init : List Cond := Cond.code yX1_init cX1_init 1 none :: hsAll
abbrev cX2_init : ByteArray := prog_4_method_1_code
def yX2_init : MethodName := ⟨RX2, "<init>", "()V"⟩
abbrev wsX2_init : List Cond := Cond.code yX2_init cX2_init 2 none :: hsAll
abbrev cX3_init : ByteArray := prog_3_method_1_code
def yX3_init : MethodName := ⟨RX3, "<init>", "()V"⟩
abbrev wsX3_init : List Cond := Cond.code yX3_init cX3_init 1 none :: hsAll
abbrev cX0_box : ByteArray := prog_1_method_2_code
def yX0_box : MethodName := ⟨RX0, "box", "(IIIIIII)I"⟩
abbrev wsX0_box : List Cond := Cond.code yX0_box cX0_box 8 (some .int) :: hsAll
abbrev cX0_isSolid : ByteArray := prog_1_method_24_code
def yX0_isSolid : MethodName := ⟨RX0, "isSolid", "(I)Z"⟩
abbrev wsX0_isSolid : List Cond := Cond.code yX0_isSolid cX0_isSolid 1 (some .boolean) :: hsAll
abbrev cX0_isStretch : ByteArray := prog_1_method_28_code
def yX0_isStretch : MethodName := ⟨RX0, "isStretch", "(II)Z"⟩
abbrev wsX0_isStretch : List Cond := Cond.code yX0_isStretch cX0_isStretch 2 (some .boolean) :: hsAll
abbrev cX0_isCoordinate : ByteArray := prog_1_method_26_code
def yX0_isCoordinate : MethodName := ⟨RX0, "isCoordinate", "(I)Z"⟩
abbrev wsX0_isCoordinate : List Cond := Cond.code yX0_isCoordinate cX0_isCoordinate 1 (some .boolean) :: hsAll
abbrev cX1_becomeBox : ByteArray := prog_2_method_5_code
def yX1_becomeBox : MethodName := ⟨RX1, "becomeBox", "(IIIIII)V"⟩
abbrev wsX1_becomeBox : List Cond := Cond.code yX1_becomeBox cX1_becomeBox 11 none :: hsAll
abbrev cX1_spanOf : ByteArray := prog_2_method_20_code
def yX1_spanOf : MethodName := ⟨RX1, "spanOf", "(II)I"⟩
abbrev wsX1_spanOf : List Cond := Cond.code yX1_spanOf cX1_spanOf 2 (some .int) :: hsAll
abbrev cX0_takeStep : ByteArray := prog_1_method_23_code
def yX0_takeStep : MethodName := ⟨RX0, "takeStep", "(I)I"⟩
abbrev wsX0_takeStep : List Cond := Cond.code yX0_takeStep cX0_takeStep 3 (some .int) :: hsAll
abbrev cX2_keep : ByteArray := prog_4_method_2_code
def yX2_keep : MethodName := ⟨RX2, "keep", "(ILHewnSolids$Cells;)LHewnSolids$Cells;"⟩
abbrev wsX2_keep : List Cond := Cond.code yX2_keep cX2_keep 5 (some (.object "HewnSolids$Cells")) :: hsAll
abbrev cX1_countCells : ByteArray := prog_2_method_11_code
def yX1_countCells : MethodName := ⟨RX1, "countCells", "()I"⟩
abbrev wsX1_countCells : List Cond := Cond.code yX1_countCells cX1_countCells 3 (some .int) :: hsAll
abbrev cX5_bitCount : ByteArray := prog_7_method_49_code
def yX5_bitCount : MethodName := ⟨RX5, "bitCount", "(I)I"⟩
abbrev wsX5_bitCount : List Cond := Cond.code yX5_bitCount cX5_bitCount 1 (some .int) :: hsAll
abbrev cX0_join : ByteArray := prog_1_method_3_code
def yX0_join : MethodName := ⟨RX0, "join", "(IIII)I"⟩
abbrev wsX0_join : List Cond := Cond.code yX0_join cX0_join 5 (some .int) :: hsAll
abbrev cX1_becomeJoined : ByteArray := prog_2_method_6_code
def yX1_becomeJoined : MethodName := ⟨RX1, "becomeJoined", "(LHewnSolids$Cells;LHewnSolids$Cells;I)V"⟩
abbrev wsX1_becomeJoined : List Cond := Cond.code yX1_becomeJoined cX1_becomeJoined 5 none :: hsAll
abbrev cX1_joined : ByteArray := prog_2_method_21_code
def yX1_joined : MethodName := ⟨RX1, "joined", "(III)I"⟩
abbrev wsX1_joined : List Cond := Cond.code yX1_joined cX1_joined 3 (some .int) :: hsAll
abbrev cX0_turn : ByteArray := prog_1_method_4_code
def yX0_turn : MethodName := ⟨RX0, "turn", "(II)I"⟩
abbrev wsX0_turn : List Cond := Cond.code yX0_turn cX0_turn 3 (some .int) :: hsAll
abbrev cX0_isAxis : ByteArray := prog_1_method_25_code
def yX0_isAxis : MethodName := ⟨RX0, "isAxis", "(I)Z"⟩
abbrev wsX0_isAxis : List Cond := Cond.code yX0_isAxis cX0_isAxis 1 (some .boolean) :: hsAll
abbrev cX1_becomeTurned : ByteArray := prog_2_method_7_code
def yX1_becomeTurned : MethodName := ⟨RX1, "becomeTurned", "(LHewnSolids$Cells;I)V"⟩
abbrev wsX1_becomeTurned : List Cond := Cond.code yX1_becomeTurned cX1_becomeTurned 5 none :: hsAll
abbrev cX1_turnedColumn : ByteArray := prog_2_method_22_code
def yX1_turnedColumn : MethodName := ⟨RX1, "turnedColumn", "(LHewnSolids$Cells;III)I"⟩
abbrev wsX1_turnedColumn : List Cond := Cond.code yX1_turnedColumn cX1_turnedColumn 4 (some .int) :: hsAll
abbrev cX1_columnAlong : ByteArray := prog_2_method_3_code
def yX1_columnAlong : MethodName := ⟨RX1, "columnAlong", "(III)I"⟩
abbrev wsX1_columnAlong : List Cond := Cond.code yX1_columnAlong cX1_columnAlong 7 (some .int) :: hsAll
abbrev cX1_column : ByteArray := prog_2_method_2_code
def yX1_column : MethodName := ⟨RX1, "column", "(II)I"⟩
abbrev wsX1_column : List Cond := Cond.code yX1_column cX1_column 3 (some .int) :: hsAll
abbrev cX1_reversed : ByteArray := prog_2_method_24_code
def yX1_reversed : MethodName := ⟨RX1, "reversed", "(I)I"⟩
abbrev wsX1_reversed : List Cond := Cond.code yX1_reversed cX1_reversed 1 (some .int) :: hsAll
abbrev cX5_reverse : ByteArray := prog_7_method_52_code
def yX5_reverse : MethodName := ⟨RX5, "reverse", "(I)I"⟩
abbrev wsX5_reverse : List Cond := Cond.code yX5_reverse cX5_reverse 1 (some .int) :: hsAll
abbrev cX5_reverseBytes : ByteArray := prog_7_method_57_code
def yX5_reverseBytes : MethodName := ⟨RX5, "reverseBytes", "(I)I"⟩
abbrev wsX5_reverseBytes : List Cond := Cond.code yX5_reverseBytes cX5_reverseBytes 1 (some .int) :: hsAll
abbrev cX0_mirror : ByteArray := prog_1_method_5_code
def yX0_mirror : MethodName := ⟨RX0, "mirror", "(II)I"⟩
abbrev wsX0_mirror : List Cond := Cond.code yX0_mirror cX0_mirror 3 (some .int) :: hsAll
abbrev cX1_becomeMirrored : ByteArray := prog_2_method_8_code
def yX1_becomeMirrored : MethodName := ⟨RX1, "becomeMirrored", "(LHewnSolids$Cells;I)V"⟩
abbrev wsX1_becomeMirrored : List Cond := Cond.code yX1_becomeMirrored cX1_becomeMirrored 5 none :: hsAll
abbrev cX1_mirroredColumn : ByteArray := prog_2_method_23_code
def yX1_mirroredColumn : MethodName := ⟨RX1, "mirroredColumn", "(LHewnSolids$Cells;III)I"⟩
abbrev wsX1_mirroredColumn : List Cond := Cond.code yX1_mirroredColumn cX1_mirroredColumn 4 (some .int) :: hsAll
abbrev cX0_shift : ByteArray := prog_1_method_6_code
def yX0_shift : MethodName := ⟨RX0, "shift", "(IIII)I"⟩
abbrev wsX0_shift : List Cond := Cond.code yX0_shift cX0_shift 6 (some .int) :: hsAll
abbrev cX0_wouldLeave : ByteArray := prog_1_method_30_code
def yX0_wouldLeave : MethodName := ⟨RX0, "wouldLeave", "(LHewnSolids$Cells;II)Z"⟩
abbrev wsX0_wouldLeave : List Cond := Cond.code yX0_wouldLeave cX0_wouldLeave 4 (some .boolean) :: hsAll
abbrev cX1_leastAlong : ByteArray := prog_2_method_13_code
def yX1_leastAlong : MethodName := ⟨RX1, "leastAlong", "(I)I"⟩
abbrev wsX1_leastAlong : List Cond := Cond.code yX1_leastAlong cX1_leastAlong 3 (some .int) :: hsAll
abbrev cX1_countLayer : ByteArray := prog_2_method_12_code
def yX1_countLayer : MethodName := ⟨RX1, "countLayer", "(II)I"⟩
abbrev wsX1_countLayer : List Cond := Cond.code yX1_countLayer cX1_countLayer 5 (some .int) :: hsAll
abbrev cX1_greatestAlong : ByteArray := prog_2_method_14_code
def yX1_greatestAlong : MethodName := ⟨RX1, "greatestAlong", "(I)I"⟩
abbrev wsX1_greatestAlong : List Cond := Cond.code yX1_greatestAlong cX1_greatestAlong 3 (some .int) :: hsAll
abbrev cX1_becomeShifted : ByteArray := prog_2_method_9_code
def yX1_becomeShifted : MethodName := ⟨RX1, "becomeShifted", "(LHewnSolids$Cells;III)V"⟩
abbrev wsX1_becomeShifted : List Cond := Cond.code yX1_becomeShifted cX1_becomeShifted 8 none :: hsAll
abbrev cX0_sweep : ByteArray := prog_1_method_7_code
def yX0_sweep : MethodName := ⟨RX0, "sweep", "(IIIIII)I"⟩
abbrev wsX0_sweep : List Cond := Cond.code yX0_sweep cX0_sweep 7 (some .int) :: hsAll
abbrev cX1_becomeSwept : ByteArray := prog_2_method_10_code
def yX1_becomeSwept : MethodName := ⟨RX1, "becomeSwept", "(LHewnSolids$Cells;IIII)V"⟩
abbrev wsX1_becomeSwept : List Cond := Cond.code yX1_becomeSwept cX1_becomeSwept 10 none :: hsAll
abbrev cX0_undo : ByteArray := prog_1_method_8_code
def yX0_undo : MethodName := ⟨RX0, "undo", "()I"⟩
abbrev wsX0_undo : List Cond := Cond.code yX0_undo cX0_undo 1 (some .int) :: hsAll
abbrev cX2_takeBack : ByteArray := prog_4_method_3_code
def yX2_takeBack : MethodName := ⟨RX2, "takeBack", "([LHewnSolids$Cells;)I"⟩
abbrev wsX2_takeBack : List Cond := Cond.code yX2_takeBack cX2_takeBack 2 (some .int) :: hsAll
abbrev cX2_exchange : ByteArray := prog_4_method_5_code
def yX2_exchange : MethodName := ⟨RX2, "exchange", "([LHewnSolids$Cells;I)I"⟩
abbrev wsX2_exchange : List Cond := Cond.code yX2_exchange cX2_exchange 5 (some .int) :: hsAll
abbrev cX0_redo : ByteArray := prog_1_method_9_code
def yX0_redo : MethodName := ⟨RX0, "redo", "()I"⟩
abbrev wsX0_redo : List Cond := Cond.code yX0_redo cX0_redo 1 (some .int) :: hsAll
abbrev cX2_doAgain : ByteArray := prog_4_method_4_code
def yX2_doAgain : MethodName := ⟨RX2, "doAgain", "([LHewnSolids$Cells;)I"⟩
abbrev wsX2_doAgain : List Cond := Cond.code yX2_doAgain cX2_doAgain 3 (some .int) :: hsAll
abbrev cX0_volume : ByteArray := prog_1_method_10_code
def yX0_volume : MethodName := ⟨RX0, "volume", "(I)I"⟩
abbrev wsX0_volume : List Cond := Cond.code yX0_volume cX0_volume 2 (some .int) :: hsAll
abbrev cX0_sides : ByteArray := prog_1_method_11_code
def yX0_sides : MethodName := ⟨RX0, "sides", "(I)I"⟩
abbrev wsX0_sides : List Cond := Cond.code yX0_sides cX0_sides 2 (some .int) :: hsAll
abbrev cX1_countSides : ByteArray := prog_2_method_15_code
def yX1_countSides : MethodName := ⟨RX1, "countSides", "()I"⟩
abbrev wsX1_countSides : List Cond := Cond.code yX1_countSides cX1_countSides 5 (some .int) :: hsAll
abbrev cX0_edges : ByteArray := prog_1_method_12_code
def yX0_edges : MethodName := ⟨RX0, "edges", "(I)I"⟩
abbrev wsX0_edges : List Cond := Cond.code yX0_edges cX0_edges 2 (some .int) :: hsAll
abbrev cX1_countEdges : ByteArray := prog_2_method_16_code
def yX1_countEdges : MethodName := ⟨RX1, "countEdges", "()I"⟩
abbrev wsX1_countEdges : List Cond := Cond.code yX1_countEdges cX1_countEdges 8 (some .int) :: hsAll
abbrev cX0_edgesBetween : ByteArray := prog_1_method_33_code
def yX0_edgesBetween : MethodName := ⟨RX0, "edgesBetween", "(II)I"⟩
abbrev wsX0_edgesBetween : List Cond := Cond.code yX0_edgesBetween cX0_edgesBetween 2 (some .int) :: hsAll
abbrev cX0_edgesAmong : ByteArray := prog_1_method_34_code
def yX0_edgesAmong : MethodName := ⟨RX0, "edgesAmong", "(IIII)I"⟩
abbrev wsX0_edgesAmong : List Cond := Cond.code yX0_edgesAmong cX0_edgesAmong 4 (some .int) :: hsAll
abbrev cX0_pieces : ByteArray := prog_1_method_13_code
def yX0_pieces : MethodName := ⟨RX0, "pieces", "(I)I"⟩
abbrev wsX0_pieces : List Cond := Cond.code yX0_pieces cX0_pieces 2 (some .int) :: hsAll
abbrev cX3_countPieces : ByteArray := prog_3_method_2_code
def yX3_countPieces : MethodName := ⟨RX3, "countPieces", "(LHewnSolids$Cells;)I"⟩
abbrev wsX3_countPieces : List Cond := Cond.code yX3_countPieces cX3_countPieces 3 (some .int) :: hsAll
abbrev cX3_countLeft : ByteArray := prog_3_method_5_code
def yX3_countLeft : MethodName := ⟨RX3, "countLeft", "()I"⟩
abbrev wsX3_countLeft : List Cond := Cond.code yX3_countLeft cX3_countLeft 4 (some .int) :: hsAll
abbrev cX3_countFrom : ByteArray := prog_3_method_6_code
def yX3_countFrom : MethodName := ⟨RX3, "countFrom", "(II)I"⟩
abbrev wsX3_countFrom : List Cond := Cond.code yX3_countFrom cX3_countFrom 5 (some .int) :: hsAll
abbrev cX3_take : ByteArray := prog_3_method_8_code
def yX3_take : MethodName := ⟨RX3, "take", "(III)V"⟩
abbrev wsX3_take : List Cond := Cond.code yX3_take cX3_take 6 none :: hsAll
abbrev cX3_spread : ByteArray := prog_3_method_7_code
def yX3_spread : MethodName := ⟨RX3, "spread", "()V"⟩
abbrev wsX3_spread : List Cond := Cond.code yX3_spread cX3_spread 6 none :: hsAll
abbrev cX0_hollows : ByteArray := prog_1_method_14_code
def yX0_hollows : MethodName := ⟨RX0, "hollows", "(I)I"⟩
abbrev wsX0_hollows : List Cond := Cond.code yX0_hollows cX0_hollows 2 (some .int) :: hsAll
abbrev cX3_countHollows : ByteArray := prog_3_method_3_code
def yX3_countHollows : MethodName := ⟨RX3, "countHollows", "(LHewnSolids$Cells;)I"⟩
abbrev wsX3_countHollows : List Cond := Cond.code yX3_countHollows cX3_countHollows 3 (some .int) :: hsAll
abbrev cX3_dropFromBorder : ByteArray := prog_3_method_4_code
def yX3_dropFromBorder : MethodName := ⟨RX3, "dropFromBorder", "()V"⟩
abbrev wsX3_dropFromBorder : List Cond := Cond.code yX3_dropFromBorder cX3_dropFromBorder 4 none :: hsAll
abbrev cX0_moment : ByteArray := prog_1_method_15_code
def yX0_moment : MethodName := ⟨RX0, "moment", "(II)I"⟩
abbrev wsX0_moment : List Cond := Cond.code yX0_moment cX0_moment 5 (some .int) :: hsAll
abbrev cX0_extent : ByteArray := prog_1_method_16_code
def yX0_extent : MethodName := ⟨RX0, "extent", "(III)I"⟩
abbrev wsX0_extent : List Cond := Cond.code yX0_extent cX0_extent 4 (some .int) :: hsAll
abbrev cX0_inside : ByteArray := prog_1_method_17_code
def yX0_inside : MethodName := ⟨RX0, "inside", "(IIII)I"⟩
abbrev wsX0_inside : List Cond := Cond.code yX0_inside cX0_inside 6 (some .int) :: hsAll
abbrev cX0_isPlane : ByteArray := prog_1_method_27_code
def yX0_isPlane : MethodName := ⟨RX0, "isPlane", "(I)Z"⟩
abbrev wsX0_isPlane : List Cond := Cond.code yX0_isPlane cX0_isPlane 1 (some .boolean) :: hsAll
abbrev cX1_countAround : ByteArray := prog_2_method_17_code
def yX1_countAround : MethodName := ⟨RX1, "countAround", "(III)I"⟩
abbrev wsX1_countAround : List Cond := Cond.code yX1_countAround cX1_countAround 4 (some .int) :: hsAll
abbrev cX1_countPair : ByteArray := prog_2_method_19_code
def yX1_countPair : MethodName := ⟨RX1, "countPair", "(III)I"⟩
abbrev wsX1_countPair : List Cond := Cond.code yX1_countPair cX1_countPair 4 (some .int) :: hsAll
abbrev cX0_section : ByteArray := prog_1_method_18_code
def yX0_section : MethodName := ⟨RX0, "section", "(III)I"⟩
abbrev wsX0_section : List Cond := Cond.code yX0_section cX0_section 4 (some .int) :: hsAll
abbrev cX0_same : ByteArray := prog_1_method_19_code
def yX0_same : MethodName := ⟨RX0, "same", "(II)Z"⟩
abbrev wsX0_same : List Cond := Cond.code yX0_same cX0_same 3 (some .boolean) :: hsAll
abbrev cX1_hasCellsOf : ByteArray := prog_2_method_18_code
def yX1_hasCellsOf : MethodName := ⟨RX1, "hasCellsOf", "(LHewnSolids$Cells;)Z"⟩
abbrev wsX1_hasCellsOf : List Cond := Cond.code yX1_hasCellsOf cX1_hasCellsOf 3 (some .boolean) :: hsAll
abbrev cX0_depth : ByteArray := prog_1_method_20_code
def yX0_depth : MethodName := ⟨RX0, "depth", "(IIZII)I"⟩
abbrev wsX0_depth : List Cond := Cond.code yX0_depth cX0_depth 6 (some .int) :: hsAll
abbrev cX0_depthOf : ByteArray := prog_1_method_31_code
def yX0_depthOf : MethodName := ⟨RX0, "depthOf", "(IZ)I"⟩
abbrev wsX0_depthOf : List Cond := Cond.code yX0_depthOf cX0_depthOf 2 (some .int) :: hsAll
abbrev cX5_numberOfLeadingZeros : ByteArray := prog_7_method_47_code
def yX5_numberOfLeadingZeros : MethodName := ⟨RX5, "numberOfLeadingZeros", "(I)I"⟩
abbrev wsX5_numberOfLeadingZeros : List Cond := Cond.code yX5_numberOfLeadingZeros cX5_numberOfLeadingZeros 2 (some .int) :: hsAll
abbrev cX5_numberOfTrailingZeros : ByteArray := prog_7_method_48_code
def yX5_numberOfTrailingZeros : MethodName := ⟨RX5, "numberOfTrailingZeros", "(I)I"⟩
abbrev wsX5_numberOfTrailingZeros : List Cond := Cond.code yX5_numberOfTrailingZeros cX5_numberOfTrailingZeros 2 (some .int) :: hsAll
abbrev cX0_stroke : ByteArray := prog_1_method_21_code
def yX0_stroke : MethodName := ⟨RX0, "stroke", "(IIZIII)I"⟩
abbrev wsX0_stroke : List Cond := Cond.code yX0_stroke cX0_stroke 8 (some .int) :: hsAll
abbrev cX0_isStrokePlace : ByteArray := prog_1_method_29_code
def yX0_isStrokePlace : MethodName := ⟨RX0, "isStrokePlace", "(III)Z"⟩
abbrev wsX0_isStrokePlace : List Cond := Cond.code yX0_isStrokePlace cX0_isStrokePlace 3 (some .boolean) :: hsAll
abbrev cX0_strokeBetween : ByteArray := prog_1_method_32_code
def yX0_strokeBetween : MethodName := ⟨RX0, "strokeBetween", "(IIZ)I"⟩
abbrev wsX0_strokeBetween : List Cond := Cond.code yX0_strokeBetween cX0_strokeBetween 3 (some .int) :: hsAll
abbrev cX0_strokes : ByteArray := prog_1_method_22_code
def yX0_strokes : MethodName := ⟨RX0, "strokes", "(IIZI)I"⟩
abbrev wsX0_strokes : List Cond := Cond.code yX0_strokes cX0_strokes 9 (some .int) :: hsAll
abbrev cX1_becomeView : ByteArray := prog_2_method_4_code
def yX1_becomeView : MethodName := ⟨RX1, "becomeView", "(LHewnSolids$Cells;I)V"⟩
abbrev wsX1_becomeView : List Cond := Cond.code yX1_becomeView cX1_becomeView 5 none :: hsAll
abbrev cX4_init : ByteArray := prog_6_method_1_code
def yX4_init : MethodName := ⟨RX4, "<init>", "()V"⟩
abbrev wsX4_init : List Cond := Cond.code yX4_init cX4_init 1 none :: hsAll
abbrev cX4_undo : ByteArray := prog_6_method_12_code
def yX4_undo : MethodName := ⟨RX4, "undo", "()I"⟩
abbrev wsX4_undo : List Cond := Cond.code yX4_undo cX4_undo 1 (some .int) :: hsAll
abbrev cX4_copy : ByteArray := prog_6_method_9_code
def yX4_copy : MethodName := ⟨RX4, "copy", "(II)V"⟩
abbrev wsX4_copy : List Cond := Cond.code yX4_copy cX4_copy 4 none :: hsAll
abbrev cX4_redo : ByteArray := prog_6_method_13_code
def yX4_redo : MethodName := ⟨RX4, "redo", "()I"⟩
abbrev wsX4_redo : List Cond := Cond.code yX4_redo cX4_redo 1 (some .int) :: hsAll
abbrev cX4_box : ByteArray := prog_6_method_14_code
def yX4_box : MethodName := ⟨RX4, "box", "(IIIIIII)I"⟩
abbrev wsX4_box : List Cond := Cond.code yX4_box cX4_box 10 (some .int) :: hsAll
abbrev cX4_isSolid : ByteArray := prog_6_method_3_code
def yX4_isSolid : MethodName := ⟨RX4, "isSolid", "(I)Z"⟩
abbrev wsX4_isSolid : List Cond := Cond.code yX4_isSolid cX4_isSolid 1 (some .boolean) :: hsAll
abbrev cX4_isIn : ByteArray := prog_6_method_2_code
def yX4_isIn : MethodName := ⟨RX4, "isIn", "(II)Z"⟩
abbrev wsX4_isIn : List Cond := Cond.code yX4_isIn cX4_isIn 2 (some .boolean) :: hsAll
abbrev cX4_clearDraft : ByteArray := prog_6_method_7_code
def yX4_clearDraft : MethodName := ⟨RX4, "clearDraft", "()V"⟩
abbrev wsX4_clearDraft : List Cond := Cond.code yX4_clearDraft cX4_clearDraft 2 none :: hsAll
abbrev cX4_put : ByteArray := prog_6_method_8_code
def yX4_put : MethodName := ⟨RX4, "put", "(III)V"⟩
abbrev wsX4_put : List Cond := Cond.code yX4_put cX4_put 4 none :: hsAll
abbrev cX4_step : ByteArray := prog_6_method_11_code
def yX4_step : MethodName := ⟨RX4, "step", "(I)I"⟩
abbrev wsX4_step : List Cond := Cond.code yX4_step cX4_step 3 (some .int) :: hsAll
abbrev cX4_count : ByteArray := prog_6_method_10_code
def yX4_count : MethodName := ⟨RX4, "count", "(I)I"⟩
abbrev wsX4_count : List Cond := Cond.code yX4_count cX4_count 4 (some .int) :: hsAll
abbrev cX4_join : ByteArray := prog_6_method_15_code
def yX4_join : MethodName := ⟨RX4, "join", "(IIII)I"⟩
abbrev wsX4_join : List Cond := Cond.code yX4_join cX4_join 9 (some .int) :: hsAll
abbrev cX4_has : ByteArray := prog_6_method_5_code
def yX4_has : MethodName := ⟨RX4, "has", "(IIII)Z"⟩
abbrev wsX4_has : List Cond := Cond.code yX4_has cX4_has 5 (some .boolean) :: hsAll
abbrev cX4_turn : ByteArray := prog_6_method_16_code
def yX4_turn : MethodName := ⟨RX4, "turn", "(II)I"⟩
abbrev wsX4_turn : List Cond := Cond.code yX4_turn cX4_turn 8 (some .int) :: hsAll
abbrev cX4_isAxis : ByteArray := prog_6_method_4_code
def yX4_isAxis : MethodName := ⟨RX4, "isAxis", "(I)Z"⟩
abbrev wsX4_isAxis : List Cond := Cond.code yX4_isAxis cX4_isAxis 1 (some .boolean) :: hsAll
abbrev cX4_mirror : ByteArray := prog_6_method_17_code
def yX4_mirror : MethodName := ⟨RX4, "mirror", "(II)I"⟩
abbrev wsX4_mirror : List Cond := Cond.code yX4_mirror cX4_mirror 7 (some .int) :: hsAll
abbrev cX4_shift : ByteArray := prog_6_method_19_code
def yX4_shift : MethodName := ⟨RX4, "shift", "(IIII)I"⟩
abbrev wsX4_shift : List Cond := Cond.code yX4_shift cX4_shift 9 (some .int) :: hsAll
abbrev cX4_shifted : ByteArray := prog_6_method_18_code
def yX4_shifted : MethodName := ⟨RX4, "shifted", "(II)I"⟩
abbrev wsX4_shifted : List Cond := Cond.code yX4_shifted cX4_shifted 2 (some .int) :: hsAll
abbrev cX4_sweep : ByteArray := prog_6_method_20_code
def yX4_sweep : MethodName := ⟨RX4, "sweep", "(IIIIII)I"⟩
abbrev wsX4_sweep : List Cond := Cond.code yX4_sweep cX4_sweep 10 (some .int) :: hsAll
abbrev cX4_hasBy : ByteArray := prog_6_method_6_code
def yX4_hasBy : MethodName := ⟨RX4, "hasBy", "(IIIII)Z"⟩
abbrev wsX4_hasBy : List Cond := Cond.code yX4_hasBy cX4_hasBy 6 (some .boolean) :: hsAll
abbrev cX4_volume : ByteArray := prog_6_method_21_code
def yX4_volume : MethodName := ⟨RX4, "volume", "(I)I"⟩
abbrev wsX4_volume : List Cond := Cond.code yX4_volume cX4_volume 2 (some .int) :: hsAll
abbrev cX4_sides : ByteArray := prog_6_method_22_code
def yX4_sides : MethodName := ⟨RX4, "sides", "(I)I"⟩
abbrev wsX4_sides : List Cond := Cond.code yX4_sides cX4_sides 7 (some .int) :: hsAll
abbrev cX4_edges : ByteArray := prog_6_method_24_code
def yX4_edges : MethodName := ⟨RX4, "edges", "(I)I"⟩
abbrev wsX4_edges : List Cond := Cond.code yX4_edges cX4_edges 7 (some .int) :: hsAll
abbrev cX4_isEdge : ByteArray := prog_6_method_23_code
def yX4_isEdge : MethodName := ⟨RX4, "isEdge", "(IIIII)Z"⟩
abbrev wsX4_isEdge : List Cond := Cond.code yX4_isEdge cX4_isEdge 11 (some .boolean) :: hsAll
abbrev cX4_pieces : ByteArray := prog_6_method_29_code
def yX4_pieces : MethodName := ⟨RX4, "pieces", "(I)I"⟩
abbrev wsX4_pieces : List Cond := Cond.code yX4_pieces cX4_pieces 2 (some .int) :: hsAll
abbrev cX4_sets : ByteArray := prog_6_method_28_code
def yX4_sets : MethodName := ⟨RX4, "sets", "(IZ)I"⟩
abbrev wsX4_sets : List Cond := Cond.code yX4_sets cX4_sets 5 (some .int) :: hsAll
abbrev cX4_see : ByteArray := prog_6_method_25_code
def yX4_see : MethodName := ⟨RX4, "see", "(IZIII)V"⟩
abbrev wsX4_see : List Cond := Cond.code yX4_see cX4_see 6 none :: hsAll
abbrev cX4_spread : ByteArray := prog_6_method_27_code
def yX4_spread : MethodName := ⟨RX4, "spread", "(IZ)V"⟩
abbrev wsX4_spread : List Cond := Cond.code yX4_spread cX4_spread 6 none :: hsAll
abbrev cX4_isBorder : ByteArray := prog_6_method_26_code
def yX4_isBorder : MethodName := ⟨RX4, "isBorder", "(I)Z"⟩
abbrev wsX4_isBorder : List Cond := Cond.code yX4_isBorder cX4_isBorder 1 (some .boolean) :: hsAll
abbrev cX4_hollows : ByteArray := prog_6_method_30_code
def yX4_hollows : MethodName := ⟨RX4, "hollows", "(I)I"⟩
abbrev wsX4_hollows : List Cond := Cond.code yX4_hollows cX4_hollows 2 (some .int) :: hsAll
abbrev cX4_moment : ByteArray := prog_6_method_32_code
def yX4_moment : MethodName := ⟨RX4, "moment", "(II)I"⟩
abbrev wsX4_moment : List Cond := Cond.code yX4_moment cX4_moment 5 (some .int) :: hsAll
abbrev cX4_countAt : ByteArray := prog_6_method_31_code
def yX4_countAt : MethodName := ⟨RX4, "countAt", "(III)I"⟩
abbrev wsX4_countAt : List Cond := Cond.code yX4_countAt cX4_countAt 6 (some .int) :: hsAll
abbrev cX4_extent : ByteArray := prog_6_method_33_code
def yX4_extent : MethodName := ⟨RX4, "extent", "(III)I"⟩
abbrev wsX4_extent : List Cond := Cond.code yX4_extent cX4_extent 7 (some .int) :: hsAll
abbrev cX4_inside : ByteArray := prog_6_method_34_code
def yX4_inside : MethodName := ⟨RX4, "inside", "(IIII)I"⟩
abbrev wsX4_inside : List Cond := Cond.code yX4_inside cX4_inside 9 (some .int) :: hsAll
abbrev cX4_section : ByteArray := prog_6_method_35_code
def yX4_section : MethodName := ⟨RX4, "section", "(III)I"⟩
abbrev wsX4_section : List Cond := Cond.code yX4_section cX4_section 4 (some .int) :: hsAll
abbrev cX4_same : ByteArray := prog_6_method_36_code
def yX4_same : MethodName := ⟨RX4, "same", "(II)Z"⟩
abbrev wsX4_same : List Cond := Cond.code yX4_same cX4_same 5 (some .boolean) :: hsAll
abbrev cX4_depth : ByteArray := prog_6_method_38_code
def yX4_depth : MethodName := ⟨RX4, "depth", "(IIZII)I"⟩
abbrev wsX4_depth : List Cond := Cond.code yX4_depth cX4_depth 6 (some .int) :: hsAll
abbrev cX4_depthOf : ByteArray := prog_6_method_37_code
def yX4_depthOf : MethodName := ⟨RX4, "depthOf", "(IIZII)I"⟩
abbrev wsX4_depthOf : List Cond := Cond.code yX4_depthOf cX4_depthOf 7 (some .int) :: hsAll
abbrev cX4_stroke : ByteArray := prog_6_method_41_code
def yX4_stroke : MethodName := ⟨RX4, "stroke", "(IIZIII)I"⟩
abbrev wsX4_stroke : List Cond := Cond.code yX4_stroke cX4_stroke 8 (some .int) :: hsAll
abbrev cX4_strokeOf : ByteArray := prog_6_method_40_code
def yX4_strokeOf : MethodName := ⟨RX4, "strokeOf", "(IIZIII)I"⟩
abbrev wsX4_strokeOf : List Cond := Cond.code yX4_strokeOf cX4_strokeOf 10 (some .int) :: hsAll
abbrev cX4_isEdgeAt : ByteArray := prog_6_method_39_code
def yX4_isEdgeAt : MethodName := ⟨RX4, "isEdgeAt", "(IIIIII)Z"⟩
abbrev wsX4_isEdgeAt : List Cond := Cond.code yX4_isEdgeAt cX4_isEdgeAt 7 (some .boolean) :: hsAll
abbrev cX4_strokes : ByteArray := prog_6_method_42_code
def yX4_strokes : MethodName := ⟨RX4, "strokes", "(IIZI)I"⟩
abbrev wsX4_strokes : List Cond := Cond.code yX4_strokes cX4_strokes 8 (some .int) :: hsAll
def hsNF : List (String × Nat × String × String × String × String) := [(RX3, 18, "HewnSolids$Cells", "columns", "[I", "HewnSolids")]
def hsNM : List (String × Nat × MethodName × String) := [(RX1, 15, yX0_isCoordinate, "HewnSolids"), (RX1, 49, yX0_edgesBetween, "HewnSolids"), (RX1, 52, yX0_edgesAmong, "HewnSolids"), (RX3, 45, yX0_isCoordinate, "HewnSolids")]
end
section
set_option maxRecDepth 100000 in
theorem w_initialized_XL : Cond.initialized RXL ∈ hsAll := hs_in 23 (by decide +kernel) (by decide +kernel)
set_option maxRecDepth 100000 in
theorem w_initialized_X0 : Cond.initialized RX0 ∈ hsAll := hs_in 24 (by decide +kernel) (by decide +kernel)
set_option maxRecDepth 100000 in
theorem w_initialized_X1 : Cond.initialized RX1 ∈ hsAll := hs_in 25 (by decide +kernel) (by decide +kernel)
set_option maxRecDepth 100000 in
theorem w_initialized_X2 : Cond.initialized RX2 ∈ hsAll := hs_in 26 (by decide +kernel) (by decide +kernel)
set_option maxRecDepth 100000 in
theorem w_initialized_X3 : Cond.initialized RX3 ∈ hsAll := hs_in 27 (by decide +kernel) (by decide +kernel)
set_option maxRecDepth 100000 in
theorem w_initialized_X4 : Cond.initialized RX4 ∈ hsAll := hs_in 28 (by decide +kernel) (by decide +kernel)
set_option maxRecDepth 100000 in
theorem w_initialized_X5 : Cond.initialized RX5 ∈ hsAll := hs_in 29 (by decide +kernel) (by decide +kernel)
set_option maxRecDepth 100000 in
theorem w_classLink_XL_7 : Cond.classLink RXL 7 RX0 ∈ hsAll := hs_in 30 (by decide +kernel) (by decide +kernel)
set_option maxRecDepth 100000 in
theorem w_instantiable_X0 : Cond.instantiable RX0 5 ∈ hsAll := hs_in 31 (by decide +kernel) (by decide +kernel)
set_option maxRecDepth 100000 in
theorem w_methodLink_XL_9 : Cond.methodLink RXL 9 yX0_init ∈ hsAll := hs_in 32 (by decide +kernel) (by decide +kernel)
set_option maxRecDepth 100000 in
theorem w_instanceMethod_X0_init : Cond.instanceMethod yX0_init ∈ hsAll := hs_in 33 (by decide +kernel) (by decide +kernel)
set_option maxRecDepth 100000 in
theorem w_code_X0_init : Cond.code yX0_init cX0_init 2 none ∈ hsAll := hs_in 34 (by decide +kernel) (by decide +kernel)
set_option maxRecDepth 100000 in
theorem w_methodLink_X0_3 : Cond.methodLink RX0 3 objectInit ∈ hsAll := hs_in 35 (by decide +kernel) (by decide +kernel)
set_option maxRecDepth 100000 in
theorem w_classLink_X0_9 : Cond.classLink RX0 9 RX1 ∈ hsAll := hs_in 38 (by decide +kernel) (by decide +kernel)
set_option maxRecDepth 100000 in
theorem w_instantiable_X1 : Cond.instantiable RX1 1 ∈ hsAll := hs_in 40 (by decide +kernel) (by decide +kernel)
set_option maxRecDepth 100000 in
theorem w_methodLink_X0_15 : Cond.methodLink RX0 15 yX1_init ∈ hsAll := hs_in 41 (by decide +kernel) (by decide +kernel)
set_option maxRecDepth 100000 in
theorem w_instanceMethod_X1_init : Cond.instanceMethod yX1_init ∈ hsAll := hs_in 42 (by decide +kernel) (by decide +kernel)
set_option maxRecDepth 100000 in
theorem w_code_X1_init : Cond.code yX1_init cX1_init 1 none ∈ hsAll := hs_in 43 (by decide +kernel) (by decide +kernel)
set_option maxRecDepth 100000 in
theorem w_methodLink_X1_3 : Cond.methodLink RX1 3 objectInit ∈ hsAll := hs_in 44 (by decide +kernel) (by decide +kernel)
set_option maxRecDepth 100000 in
theorem w_fieldLink_X1_9 : Cond.fieldLink RX1 9 "HewnSolids$Cells" "columns" "[I" ∈ hsAll := hs_in 45 (by decide +kernel) (by decide +kernel)
set_option maxRecDepth 100000 in
theorem w_arrayClass : Cond.arrayClass .int ∈ hsAll := hs_in 50 (by decide +kernel) (by decide +kernel)
set_option maxRecDepth 100000 in
theorem w_classLink_X0_16 : Cond.classLink RX0 16 RX2 ∈ hsAll := hs_in 51 (by decide +kernel) (by decide +kernel)
set_option maxRecDepth 100000 in
theorem w_instantiable_X2 : Cond.instantiable RX2 5 ∈ hsAll := hs_in 52 (by decide +kernel) (by decide +kernel)
set_option maxRecDepth 100000 in
theorem w_methodLink_X0_18 : Cond.methodLink RX0 18 yX2_init ∈ hsAll := hs_in 53 (by decide +kernel) (by decide +kernel)
set_option maxRecDepth 100000 in
theorem w_instanceMethod_X2_init : Cond.instanceMethod yX2_init ∈ hsAll := hs_in 54 (by decide +kernel) (by decide +kernel)
set_option maxRecDepth 100000 in
theorem w_code_X2_init : Cond.code yX2_init cX2_init 2 none ∈ hsAll := hs_in 55 (by decide +kernel) (by decide +kernel)
set_option maxRecDepth 100000 in
theorem w_methodLink_X2_3 : Cond.methodLink RX2 3 objectInit ∈ hsAll := hs_in 56 (by decide +kernel) (by decide +kernel)
set_option maxRecDepth 100000 in
theorem w_classLink_X2_15 : Cond.classLink RX2 15 RX1 ∈ hsAll := hs_in 57 (by decide +kernel) (by decide +kernel)
set_option maxRecDepth 100000 in
theorem w_methodLink_X2_21 : Cond.methodLink RX2 21 yX1_init ∈ hsAll := hs_in 58 (by decide +kernel) (by decide +kernel)
set_option maxRecDepth 100000 in
theorem w_fieldLink_X2_9 : Cond.fieldLink RX2 9 "HewnSolids$Steps" "numbers" "[I" ∈ hsAll := hs_in 59 (by decide +kernel) (by decide +kernel)
set_option maxRecDepth 100000 in
theorem w_fieldLink_X2_17 : Cond.fieldLink RX2 17 "HewnSolids$Steps" "others" "[LHewnSolids$Cells;" ∈ hsAll := hs_in 60 (by decide +kernel) (by decide +kernel)
set_option maxRecDepth 100000 in
theorem w_fieldLink_X2_26 : Cond.fieldLink RX2 26 "HewnSolids$Steps" "oldest" "I" ∈ hsAll := hs_in 61 (by decide +kernel) (by decide +kernel)
set_option maxRecDepth 100000 in
theorem w_fieldLink_X2_22 : Cond.fieldLink RX2 22 "HewnSolids$Steps" "done" "I" ∈ hsAll := hs_in 62 (by decide +kernel) (by decide +kernel)
set_option maxRecDepth 100000 in
theorem w_fieldLink_X2_29 : Cond.fieldLink RX2 29 "HewnSolids$Steps" "takenBack" "I" ∈ hsAll := hs_in 63 (by decide +kernel) (by decide +kernel)
set_option maxRecDepth 100000 in
theorem w_classLink_X0_27 : Cond.classLink RX0 27 RX3 ∈ hsAll := hs_in 75 (by decide +kernel) (by decide +kernel)
set_option maxRecDepth 100000 in
theorem w_instantiable_X3 : Cond.instantiable RX3 3 ∈ hsAll := hs_in 76 (by decide +kernel) (by decide +kernel)
set_option maxRecDepth 100000 in
theorem w_methodLink_X0_29 : Cond.methodLink RX0 29 yX3_init ∈ hsAll := hs_in 77 (by decide +kernel) (by decide +kernel)
set_option maxRecDepth 100000 in
theorem w_instanceMethod_X3_init : Cond.instanceMethod yX3_init ∈ hsAll := hs_in 78 (by decide +kernel) (by decide +kernel)
set_option maxRecDepth 100000 in
theorem w_code_X3_init : Cond.code yX3_init cX3_init 1 none ∈ hsAll := hs_in 79 (by decide +kernel) (by decide +kernel)
set_option maxRecDepth 100000 in
theorem w_methodLink_X3_3 : Cond.methodLink RX3 3 objectInit ∈ hsAll := hs_in 80 (by decide +kernel) (by decide +kernel)
set_option maxRecDepth 100000 in
theorem w_fieldLink_X3_9 : Cond.fieldLink RX3 9 "HewnSolids$Flood" "left" "[I" ∈ hsAll := hs_in 81 (by decide +kernel) (by decide +kernel)
set_option maxRecDepth 100000 in
theorem w_fieldLink_X3_15 : Cond.fieldLink RX3 15 "HewnSolids$Flood" "taken" "[I" ∈ hsAll := hs_in 82 (by decide +kernel) (by decide +kernel)
set_option maxRecDepth 100000 in
theorem w_fieldLink_X3_30 : Cond.fieldLink RX3 30 "HewnSolids$Flood" "end" "I" ∈ hsAll := hs_in 83 (by decide +kernel) (by decide +kernel)
set_option maxRecDepth 100000 in
theorem w_fieldLink_X0_11 : Cond.fieldLink RX0 11 "HewnSolids" "solids" "[LHewnSolids$Cells;" ∈ hsAll := hs_in 91 (by decide +kernel) (by decide +kernel)
set_option maxRecDepth 100000 in
theorem w_fieldLink_X0_19 : Cond.fieldLink RX0 19 "HewnSolids" "steps" "LHewnSolids$Steps;" ∈ hsAll := hs_in 92 (by decide +kernel) (by decide +kernel)
set_option maxRecDepth 100000 in
theorem w_fieldLink_X0_23 : Cond.fieldLink RX0 23 "HewnSolids" "view" "LHewnSolids$Cells;" ∈ hsAll := hs_in 93 (by decide +kernel) (by decide +kernel)
set_option maxRecDepth 100000 in
theorem w_fieldLink_X0_30 : Cond.fieldLink RX0 30 "HewnSolids" "flood" "LHewnSolids$Flood;" ∈ hsAll := hs_in 94 (by decide +kernel) (by decide +kernel)
set_option maxRecDepth 100000 in
theorem w_fieldLink_X0_34 : Cond.fieldLink RX0 34 "HewnSolids" "outcome" "LHewnSolids$Cells;" ∈ hsAll := hs_in 95 (by decide +kernel) (by decide +kernel)
set_option maxRecDepth 100000 in
theorem w_methodLink_XL_13 : Cond.methodLink RXL 13 yX0_box ∈ hsAll := hs_in 107 (by decide +kernel) (by decide +kernel)
set_option maxRecDepth 100000 in
theorem w_instanceMethod_X0_box : Cond.instanceMethod yX0_box ∈ hsAll := hs_in 108 (by decide +kernel) (by decide +kernel)
set_option maxRecDepth 100000 in
theorem w_code_X0_box : Cond.code yX0_box cX0_box 8 (some .int) ∈ hsAll := hs_in 110 (by decide +kernel) (by decide +kernel)
set_option maxRecDepth 100000 in
theorem w_methodLink_X0_37 : Cond.methodLink RX0 37 yX0_isSolid ∈ hsAll := hs_in 111 (by decide +kernel) (by decide +kernel)
set_option maxRecDepth 100000 in
theorem w_static_X0_isSolid : Cond.static yX0_isSolid ∈ hsAll := hs_in 112 (by decide +kernel) (by decide +kernel)
set_option maxRecDepth 100000 in
theorem w_code_X0_isSolid : Cond.code yX0_isSolid cX0_isSolid 1 (some .boolean) ∈ hsAll := hs_in 113 (by decide +kernel) (by decide +kernel)
set_option maxRecDepth 100000 in
theorem w_methodLink_X0_41 : Cond.methodLink RX0 41 yX0_isStretch ∈ hsAll := hs_in 114 (by decide +kernel) (by decide +kernel)
set_option maxRecDepth 100000 in
theorem w_static_X0_isStretch : Cond.static yX0_isStretch ∈ hsAll := hs_in 115 (by decide +kernel) (by decide +kernel)
set_option maxRecDepth 100000 in
theorem w_code_X0_isStretch : Cond.code yX0_isStretch cX0_isStretch 2 (some .boolean) ∈ hsAll := hs_in 116 (by decide +kernel) (by decide +kernel)
set_option maxRecDepth 100000 in
theorem w_methodLink_X0_75 : Cond.methodLink RX0 75 yX0_isCoordinate ∈ hsAll := hs_in 117 (by decide +kernel) (by decide +kernel)
set_option maxRecDepth 100000 in
theorem w_static_X0_isCoordinate : Cond.static yX0_isCoordinate ∈ hsAll := hs_in 118 (by decide +kernel) (by decide +kernel)
set_option maxRecDepth 100000 in
theorem w_code_X0_isCoordinate : Cond.code yX0_isCoordinate cX0_isCoordinate 1 (some .boolean) ∈ hsAll := hs_in 119 (by decide +kernel) (by decide +kernel)
set_option maxRecDepth 100000 in
theorem w_methodLink_X0_45 : Cond.methodLink RX0 45 yX1_becomeBox ∈ hsAll := hs_in 120 (by decide +kernel) (by decide +kernel)
set_option maxRecDepth 100000 in
theorem w_instanceMethod_X1_becomeBox : Cond.instanceMethod yX1_becomeBox ∈ hsAll := hs_in 121 (by decide +kernel) (by decide +kernel)
set_option maxRecDepth 100000 in
theorem w_code_X1_becomeBox : Cond.code yX1_becomeBox cX1_becomeBox 11 none ∈ hsAll := hs_in 123 (by decide +kernel) (by decide +kernel)
set_option maxRecDepth 100000 in
theorem w_methodLink_X1_27 : Cond.methodLink RX1 27 yX1_spanOf ∈ hsAll := hs_in 124 (by decide +kernel) (by decide +kernel)
set_option maxRecDepth 100000 in
theorem w_static_X1_spanOf : Cond.static yX1_spanOf ∈ hsAll := hs_in 125 (by decide +kernel) (by decide +kernel)
set_option maxRecDepth 100000 in
theorem w_code_X1_spanOf : Cond.code yX1_spanOf cX1_spanOf 2 (some .int) ∈ hsAll := hs_in 126 (by decide +kernel) (by decide +kernel)
set_option maxRecDepth 100000 in
theorem w_methodLink_X0_49 : Cond.methodLink RX0 49 yX0_takeStep ∈ hsAll := hs_in 127 (by decide +kernel) (by decide +kernel)
set_option maxRecDepth 100000 in
theorem w_instanceMethod_X0_takeStep : Cond.instanceMethod yX0_takeStep ∈ hsAll := hs_in 129 (by decide +kernel) (by decide +kernel)
set_option maxRecDepth 100000 in
theorem w_code_X0_takeStep : Cond.code yX0_takeStep cX0_takeStep 3 (some .int) ∈ hsAll := hs_in 130 (by decide +kernel) (by decide +kernel)
set_option maxRecDepth 100000 in
theorem w_methodLink_X0_148 : Cond.methodLink RX0 148 yX2_keep ∈ hsAll := hs_in 131 (by decide +kernel) (by decide +kernel)
set_option maxRecDepth 100000 in
theorem w_instanceMethod_X2_keep : Cond.instanceMethod yX2_keep ∈ hsAll := hs_in 132 (by decide +kernel) (by decide +kernel)
set_option maxRecDepth 100000 in
theorem w_code_X2_keep : Cond.code yX2_keep cX2_keep 5 (some (.object "HewnSolids$Cells")) ∈ hsAll := hs_in 134 (by decide +kernel) (by decide +kernel)
set_option maxRecDepth 100000 in
theorem w_methodLink_X0_89 : Cond.methodLink RX0 89 yX1_countCells ∈ hsAll := hs_in 135 (by decide +kernel) (by decide +kernel)
set_option maxRecDepth 100000 in
theorem w_instanceMethod_X1_countCells : Cond.instanceMethod yX1_countCells ∈ hsAll := hs_in 136 (by decide +kernel) (by decide +kernel)
set_option maxRecDepth 100000 in
theorem w_code_X1_countCells : Cond.code yX1_countCells cX1_countCells 3 (some .int) ∈ hsAll := hs_in 138 (by decide +kernel) (by decide +kernel)
set_option maxRecDepth 100000 in
theorem w_methodLink_X1_40 : Cond.methodLink RX1 40 yX5_bitCount ∈ hsAll := hs_in 139 (by decide +kernel) (by decide +kernel)
set_option maxRecDepth 100000 in
theorem w_static_X5_bitCount : Cond.static yX5_bitCount ∈ hsAll := hs_in 140 (by decide +kernel) (by decide +kernel)
set_option maxRecDepth 100000 in
theorem w_code_X5_bitCount : Cond.code yX5_bitCount cX5_bitCount 1 (some .int) ∈ hsAll := hs_in 141 (by decide +kernel) (by decide +kernel)
set_option maxRecDepth 100000 in
theorem w_constant_X5_265 : Cond.constant RX5 265 (1431655765) ∈ hsAll := hs_in 142 (by decide +kernel) (by decide +kernel)
set_option maxRecDepth 100000 in
theorem w_constant_X5_266 : Cond.constant RX5 266 (858993459) ∈ hsAll := hs_in 143 (by decide +kernel) (by decide +kernel)
set_option maxRecDepth 100000 in
theorem w_constant_X5_267 : Cond.constant RX5 267 (252645135) ∈ hsAll := hs_in 144 (by decide +kernel) (by decide +kernel)
set_option maxRecDepth 100000 in
theorem w_methodLink_XL_18 : Cond.methodLink RXL 18 yX0_join ∈ hsAll := hs_in 145 (by decide +kernel) (by decide +kernel)
set_option maxRecDepth 100000 in
theorem w_instanceMethod_X0_join : Cond.instanceMethod yX0_join ∈ hsAll := hs_in 146 (by decide +kernel) (by decide +kernel)
set_option maxRecDepth 100000 in
theorem w_code_X0_join : Cond.code yX0_join cX0_join 5 (some .int) ∈ hsAll := hs_in 148 (by decide +kernel) (by decide +kernel)
set_option maxRecDepth 100000 in
theorem w_methodLink_X0_53 : Cond.methodLink RX0 53 yX1_becomeJoined ∈ hsAll := hs_in 149 (by decide +kernel) (by decide +kernel)
set_option maxRecDepth 100000 in
theorem w_instanceMethod_X1_becomeJoined : Cond.instanceMethod yX1_becomeJoined ∈ hsAll := hs_in 150 (by decide +kernel) (by decide +kernel)
set_option maxRecDepth 100000 in
theorem w_code_X1_becomeJoined : Cond.code yX1_becomeJoined cX1_becomeJoined 5 none ∈ hsAll := hs_in 152 (by decide +kernel) (by decide +kernel)
set_option maxRecDepth 100000 in
theorem w_methodLink_X1_30 : Cond.methodLink RX1 30 yX1_joined ∈ hsAll := hs_in 153 (by decide +kernel) (by decide +kernel)
set_option maxRecDepth 100000 in
theorem w_static_X1_joined : Cond.static yX1_joined ∈ hsAll := hs_in 154 (by decide +kernel) (by decide +kernel)
set_option maxRecDepth 100000 in
theorem w_code_X1_joined : Cond.code yX1_joined cX1_joined 3 (some .int) ∈ hsAll := hs_in 155 (by decide +kernel) (by decide +kernel)
set_option maxRecDepth 100000 in
theorem w_methodLink_XL_23 : Cond.methodLink RXL 23 yX0_turn ∈ hsAll := hs_in 156 (by decide +kernel) (by decide +kernel)
set_option maxRecDepth 100000 in
theorem w_instanceMethod_X0_turn : Cond.instanceMethod yX0_turn ∈ hsAll := hs_in 157 (by decide +kernel) (by decide +kernel)
set_option maxRecDepth 100000 in
theorem w_code_X0_turn : Cond.code yX0_turn cX0_turn 3 (some .int) ∈ hsAll := hs_in 159 (by decide +kernel) (by decide +kernel)
set_option maxRecDepth 100000 in
theorem w_methodLink_X0_57 : Cond.methodLink RX0 57 yX0_isAxis ∈ hsAll := hs_in 160 (by decide +kernel) (by decide +kernel)
set_option maxRecDepth 100000 in
theorem w_static_X0_isAxis : Cond.static yX0_isAxis ∈ hsAll := hs_in 161 (by decide +kernel) (by decide +kernel)
set_option maxRecDepth 100000 in
theorem w_code_X0_isAxis : Cond.code yX0_isAxis cX0_isAxis 1 (some .boolean) ∈ hsAll := hs_in 162 (by decide +kernel) (by decide +kernel)
set_option maxRecDepth 100000 in
theorem w_methodLink_X0_60 : Cond.methodLink RX0 60 yX1_becomeTurned ∈ hsAll := hs_in 163 (by decide +kernel) (by decide +kernel)
set_option maxRecDepth 100000 in
theorem w_instanceMethod_X1_becomeTurned : Cond.instanceMethod yX1_becomeTurned ∈ hsAll := hs_in 164 (by decide +kernel) (by decide +kernel)
set_option maxRecDepth 100000 in
theorem w_code_X1_becomeTurned : Cond.code yX1_becomeTurned cX1_becomeTurned 5 none ∈ hsAll := hs_in 166 (by decide +kernel) (by decide +kernel)
set_option maxRecDepth 100000 in
theorem w_methodLink_X1_33 : Cond.methodLink RX1 33 yX1_turnedColumn ∈ hsAll := hs_in 167 (by decide +kernel) (by decide +kernel)
set_option maxRecDepth 100000 in
theorem w_static_X1_turnedColumn : Cond.static yX1_turnedColumn ∈ hsAll := hs_in 168 (by decide +kernel) (by decide +kernel)
set_option maxRecDepth 100000 in
theorem w_code_X1_turnedColumn : Cond.code yX1_turnedColumn cX1_turnedColumn 4 (some .int) ∈ hsAll := hs_in 169 (by decide +kernel) (by decide +kernel)
set_option maxRecDepth 100000 in
theorem w_methodLink_X1_23 : Cond.methodLink RX1 23 yX1_columnAlong ∈ hsAll := hs_in 170 (by decide +kernel) (by decide +kernel)
set_option maxRecDepth 100000 in
theorem w_instanceMethod_X1_columnAlong : Cond.instanceMethod yX1_columnAlong ∈ hsAll := hs_in 171 (by decide +kernel) (by decide +kernel)
set_option maxRecDepth 100000 in
theorem w_code_X1_columnAlong : Cond.code yX1_columnAlong cX1_columnAlong 7 (some .int) ∈ hsAll := hs_in 173 (by decide +kernel) (by decide +kernel)
set_option maxRecDepth 100000 in
theorem w_methodLink_X1_19 : Cond.methodLink RX1 19 yX1_column ∈ hsAll := hs_in 174 (by decide +kernel) (by decide +kernel)
set_option maxRecDepth 100000 in
theorem w_instanceMethod_X1_column : Cond.instanceMethod yX1_column ∈ hsAll := hs_in 175 (by decide +kernel) (by decide +kernel)
set_option maxRecDepth 100000 in
theorem w_code_X1_column : Cond.code yX1_column cX1_column 3 (some .int) ∈ hsAll := hs_in 177 (by decide +kernel) (by decide +kernel)
set_option maxRecDepth 100000 in
theorem w_methodLink_X1_59 : Cond.methodLink RX1 59 yX1_reversed ∈ hsAll := hs_in 179 (by decide +kernel) (by decide +kernel)
set_option maxRecDepth 100000 in
theorem w_static_X1_reversed : Cond.static yX1_reversed ∈ hsAll := hs_in 180 (by decide +kernel) (by decide +kernel)
set_option maxRecDepth 100000 in
theorem w_code_X1_reversed : Cond.code yX1_reversed cX1_reversed 1 (some .int) ∈ hsAll := hs_in 181 (by decide +kernel) (by decide +kernel)
set_option maxRecDepth 100000 in
theorem w_methodLink_X1_62 : Cond.methodLink RX1 62 yX5_reverse ∈ hsAll := hs_in 182 (by decide +kernel) (by decide +kernel)
set_option maxRecDepth 100000 in
theorem w_static_X5_reverse : Cond.static yX5_reverse ∈ hsAll := hs_in 183 (by decide +kernel) (by decide +kernel)
set_option maxRecDepth 100000 in
theorem w_code_X5_reverse : Cond.code yX5_reverse cX5_reverse 1 (some .int) ∈ hsAll := hs_in 184 (by decide +kernel) (by decide +kernel)
set_option maxRecDepth 100000 in
theorem w_methodLink_X5_268 : Cond.methodLink RX5 268 yX5_reverseBytes ∈ hsAll := hs_in 185 (by decide +kernel) (by decide +kernel)
set_option maxRecDepth 100000 in
theorem w_static_X5_reverseBytes : Cond.static yX5_reverseBytes ∈ hsAll := hs_in 186 (by decide +kernel) (by decide +kernel)
set_option maxRecDepth 100000 in
theorem w_code_X5_reverseBytes : Cond.code yX5_reverseBytes cX5_reverseBytes 1 (some .int) ∈ hsAll := hs_in 187 (by decide +kernel) (by decide +kernel)
set_option maxRecDepth 100000 in
theorem w_constant_X5_274 : Cond.constant RX5 274 (65280) ∈ hsAll := hs_in 188 (by decide +kernel) (by decide +kernel)
set_option maxRecDepth 100000 in
theorem w_methodLink_XL_28 : Cond.methodLink RXL 28 yX0_mirror ∈ hsAll := hs_in 189 (by decide +kernel) (by decide +kernel)
set_option maxRecDepth 100000 in
theorem w_instanceMethod_X0_mirror : Cond.instanceMethod yX0_mirror ∈ hsAll := hs_in 190 (by decide +kernel) (by decide +kernel)
set_option maxRecDepth 100000 in
theorem w_code_X0_mirror : Cond.code yX0_mirror cX0_mirror 3 (some .int) ∈ hsAll := hs_in 192 (by decide +kernel) (by decide +kernel)
set_option maxRecDepth 100000 in
theorem w_methodLink_X0_64 : Cond.methodLink RX0 64 yX1_becomeMirrored ∈ hsAll := hs_in 193 (by decide +kernel) (by decide +kernel)
set_option maxRecDepth 100000 in
theorem w_instanceMethod_X1_becomeMirrored : Cond.instanceMethod yX1_becomeMirrored ∈ hsAll := hs_in 194 (by decide +kernel) (by decide +kernel)
set_option maxRecDepth 100000 in
theorem w_code_X1_becomeMirrored : Cond.code yX1_becomeMirrored cX1_becomeMirrored 5 none ∈ hsAll := hs_in 196 (by decide +kernel) (by decide +kernel)
set_option maxRecDepth 100000 in
theorem w_methodLink_X1_37 : Cond.methodLink RX1 37 yX1_mirroredColumn ∈ hsAll := hs_in 197 (by decide +kernel) (by decide +kernel)
set_option maxRecDepth 100000 in
theorem w_static_X1_mirroredColumn : Cond.static yX1_mirroredColumn ∈ hsAll := hs_in 198 (by decide +kernel) (by decide +kernel)
set_option maxRecDepth 100000 in
theorem w_code_X1_mirroredColumn : Cond.code yX1_mirroredColumn cX1_mirroredColumn 4 (some .int) ∈ hsAll := hs_in 199 (by decide +kernel) (by decide +kernel)
set_option maxRecDepth 100000 in
theorem w_methodLink_XL_32 : Cond.methodLink RXL 32 yX0_shift ∈ hsAll := hs_in 200 (by decide +kernel) (by decide +kernel)
set_option maxRecDepth 100000 in
theorem w_instanceMethod_X0_shift : Cond.instanceMethod yX0_shift ∈ hsAll := hs_in 201 (by decide +kernel) (by decide +kernel)
set_option maxRecDepth 100000 in
theorem w_code_X0_shift : Cond.code yX0_shift cX0_shift 6 (some .int) ∈ hsAll := hs_in 203 (by decide +kernel) (by decide +kernel)
set_option maxRecDepth 100000 in
theorem w_methodLink_X0_67 : Cond.methodLink RX0 67 yX0_wouldLeave ∈ hsAll := hs_in 204 (by decide +kernel) (by decide +kernel)
set_option maxRecDepth 100000 in
theorem w_static_X0_wouldLeave : Cond.static yX0_wouldLeave ∈ hsAll := hs_in 205 (by decide +kernel) (by decide +kernel)
set_option maxRecDepth 100000 in
theorem w_code_X0_wouldLeave : Cond.code yX0_wouldLeave cX0_wouldLeave 4 (some .boolean) ∈ hsAll := hs_in 206 (by decide +kernel) (by decide +kernel)
set_option maxRecDepth 100000 in
theorem w_methodLink_X0_110 : Cond.methodLink RX0 110 yX1_leastAlong ∈ hsAll := hs_in 207 (by decide +kernel) (by decide +kernel)
set_option maxRecDepth 100000 in
theorem w_instanceMethod_X1_leastAlong : Cond.instanceMethod yX1_leastAlong ∈ hsAll := hs_in 208 (by decide +kernel) (by decide +kernel)
set_option maxRecDepth 100000 in
theorem w_code_X1_leastAlong : Cond.code yX1_leastAlong cX1_leastAlong 3 (some .int) ∈ hsAll := hs_in 210 (by decide +kernel) (by decide +kernel)
set_option maxRecDepth 100000 in
theorem w_methodLink_X1_46 : Cond.methodLink RX1 46 yX1_countLayer ∈ hsAll := hs_in 211 (by decide +kernel) (by decide +kernel)
set_option maxRecDepth 100000 in
theorem w_instanceMethod_X1_countLayer : Cond.instanceMethod yX1_countLayer ∈ hsAll := hs_in 212 (by decide +kernel) (by decide +kernel)
set_option maxRecDepth 100000 in
theorem w_code_X1_countLayer : Cond.code yX1_countLayer cX1_countLayer 5 (some .int) ∈ hsAll := hs_in 214 (by decide +kernel) (by decide +kernel)
set_option maxRecDepth 100000 in
theorem w_methodLink_X0_113 : Cond.methodLink RX0 113 yX1_greatestAlong ∈ hsAll := hs_in 215 (by decide +kernel) (by decide +kernel)
set_option maxRecDepth 100000 in
theorem w_instanceMethod_X1_greatestAlong : Cond.instanceMethod yX1_greatestAlong ∈ hsAll := hs_in 216 (by decide +kernel) (by decide +kernel)
set_option maxRecDepth 100000 in
theorem w_code_X1_greatestAlong : Cond.code yX1_greatestAlong cX1_greatestAlong 3 (some .int) ∈ hsAll := hs_in 218 (by decide +kernel) (by decide +kernel)
set_option maxRecDepth 100000 in
theorem w_methodLink_X0_71 : Cond.methodLink RX0 71 yX1_becomeShifted ∈ hsAll := hs_in 219 (by decide +kernel) (by decide +kernel)
set_option maxRecDepth 100000 in
theorem w_instanceMethod_X1_becomeShifted : Cond.instanceMethod yX1_becomeShifted ∈ hsAll := hs_in 220 (by decide +kernel) (by decide +kernel)
set_option maxRecDepth 100000 in
theorem w_code_X1_becomeShifted : Cond.code yX1_becomeShifted cX1_becomeShifted 8 none ∈ hsAll := hs_in 222 (by decide +kernel) (by decide +kernel)
set_option maxRecDepth 100000 in
theorem w_methodLink_XL_36 : Cond.methodLink RXL 36 yX0_sweep ∈ hsAll := hs_in 223 (by decide +kernel) (by decide +kernel)
set_option maxRecDepth 100000 in
theorem w_instanceMethod_X0_sweep : Cond.instanceMethod yX0_sweep ∈ hsAll := hs_in 224 (by decide +kernel) (by decide +kernel)
set_option maxRecDepth 100000 in
theorem w_code_X0_sweep : Cond.code yX0_sweep cX0_sweep 7 (some .int) ∈ hsAll := hs_in 226 (by decide +kernel) (by decide +kernel)
set_option maxRecDepth 100000 in
theorem w_methodLink_X0_78 : Cond.methodLink RX0 78 yX1_becomeSwept ∈ hsAll := hs_in 227 (by decide +kernel) (by decide +kernel)
set_option maxRecDepth 100000 in
theorem w_instanceMethod_X1_becomeSwept : Cond.instanceMethod yX1_becomeSwept ∈ hsAll := hs_in 228 (by decide +kernel) (by decide +kernel)
set_option maxRecDepth 100000 in
theorem w_code_X1_becomeSwept : Cond.code yX1_becomeSwept cX1_becomeSwept 10 none ∈ hsAll := hs_in 230 (by decide +kernel) (by decide +kernel)
set_option maxRecDepth 100000 in
theorem w_methodLink_XL_41 : Cond.methodLink RXL 41 yX0_undo ∈ hsAll := hs_in 231 (by decide +kernel) (by decide +kernel)
set_option maxRecDepth 100000 in
theorem w_instanceMethod_X0_undo : Cond.instanceMethod yX0_undo ∈ hsAll := hs_in 232 (by decide +kernel) (by decide +kernel)
set_option maxRecDepth 100000 in
theorem w_code_X0_undo : Cond.code yX0_undo cX0_undo 1 (some .int) ∈ hsAll := hs_in 234 (by decide +kernel) (by decide +kernel)
set_option maxRecDepth 100000 in
theorem w_methodLink_X0_82 : Cond.methodLink RX0 82 yX2_takeBack ∈ hsAll := hs_in 235 (by decide +kernel) (by decide +kernel)
set_option maxRecDepth 100000 in
theorem w_instanceMethod_X2_takeBack : Cond.instanceMethod yX2_takeBack ∈ hsAll := hs_in 236 (by decide +kernel) (by decide +kernel)
set_option maxRecDepth 100000 in
theorem w_code_X2_takeBack : Cond.code yX2_takeBack cX2_takeBack 2 (some .int) ∈ hsAll := hs_in 238 (by decide +kernel) (by decide +kernel)
set_option maxRecDepth 100000 in
theorem w_methodLink_X2_32 : Cond.methodLink RX2 32 yX2_exchange ∈ hsAll := hs_in 239 (by decide +kernel) (by decide +kernel)
set_option maxRecDepth 100000 in
theorem w_instanceMethod_X2_exchange : Cond.instanceMethod yX2_exchange ∈ hsAll := hs_in 241 (by decide +kernel) (by decide +kernel)
set_option maxRecDepth 100000 in
theorem w_code_X2_exchange : Cond.code yX2_exchange cX2_exchange 5 (some .int) ∈ hsAll := hs_in 242 (by decide +kernel) (by decide +kernel)
set_option maxRecDepth 100000 in
theorem w_methodLink_XL_46 : Cond.methodLink RXL 46 yX0_redo ∈ hsAll := hs_in 243 (by decide +kernel) (by decide +kernel)
set_option maxRecDepth 100000 in
theorem w_instanceMethod_X0_redo : Cond.instanceMethod yX0_redo ∈ hsAll := hs_in 244 (by decide +kernel) (by decide +kernel)
set_option maxRecDepth 100000 in
theorem w_code_X0_redo : Cond.code yX0_redo cX0_redo 1 (some .int) ∈ hsAll := hs_in 246 (by decide +kernel) (by decide +kernel)
set_option maxRecDepth 100000 in
theorem w_methodLink_X0_86 : Cond.methodLink RX0 86 yX2_doAgain ∈ hsAll := hs_in 247 (by decide +kernel) (by decide +kernel)
set_option maxRecDepth 100000 in
theorem w_instanceMethod_X2_doAgain : Cond.instanceMethod yX2_doAgain ∈ hsAll := hs_in 248 (by decide +kernel) (by decide +kernel)
set_option maxRecDepth 100000 in
theorem w_code_X2_doAgain : Cond.code yX2_doAgain cX2_doAgain 3 (some .int) ∈ hsAll := hs_in 250 (by decide +kernel) (by decide +kernel)
set_option maxRecDepth 100000 in
theorem w_methodLink_XL_50 : Cond.methodLink RXL 50 yX0_volume ∈ hsAll := hs_in 251 (by decide +kernel) (by decide +kernel)
set_option maxRecDepth 100000 in
theorem w_instanceMethod_X0_volume : Cond.instanceMethod yX0_volume ∈ hsAll := hs_in 252 (by decide +kernel) (by decide +kernel)
set_option maxRecDepth 100000 in
theorem w_code_X0_volume : Cond.code yX0_volume cX0_volume 2 (some .int) ∈ hsAll := hs_in 254 (by decide +kernel) (by decide +kernel)
set_option maxRecDepth 100000 in
theorem w_methodLink_XL_55 : Cond.methodLink RXL 55 yX0_sides ∈ hsAll := hs_in 255 (by decide +kernel) (by decide +kernel)
set_option maxRecDepth 100000 in
theorem w_instanceMethod_X0_sides : Cond.instanceMethod yX0_sides ∈ hsAll := hs_in 256 (by decide +kernel) (by decide +kernel)
set_option maxRecDepth 100000 in
theorem w_code_X0_sides : Cond.code yX0_sides cX0_sides 2 (some .int) ∈ hsAll := hs_in 258 (by decide +kernel) (by decide +kernel)
set_option maxRecDepth 100000 in
theorem w_methodLink_X0_93 : Cond.methodLink RX0 93 yX1_countSides ∈ hsAll := hs_in 259 (by decide +kernel) (by decide +kernel)
set_option maxRecDepth 100000 in
theorem w_instanceMethod_X1_countSides : Cond.instanceMethod yX1_countSides ∈ hsAll := hs_in 260 (by decide +kernel) (by decide +kernel)
set_option maxRecDepth 100000 in
theorem w_code_X1_countSides : Cond.code yX1_countSides cX1_countSides 5 (some .int) ∈ hsAll := hs_in 262 (by decide +kernel) (by decide +kernel)
set_option maxRecDepth 100000 in
theorem w_methodLink_XL_59 : Cond.methodLink RXL 59 yX0_edges ∈ hsAll := hs_in 263 (by decide +kernel) (by decide +kernel)
set_option maxRecDepth 100000 in
theorem w_instanceMethod_X0_edges : Cond.instanceMethod yX0_edges ∈ hsAll := hs_in 264 (by decide +kernel) (by decide +kernel)
set_option maxRecDepth 100000 in
theorem w_code_X0_edges : Cond.code yX0_edges cX0_edges 2 (some .int) ∈ hsAll := hs_in 266 (by decide +kernel) (by decide +kernel)
set_option maxRecDepth 100000 in
theorem w_methodLink_X0_96 : Cond.methodLink RX0 96 yX1_countEdges ∈ hsAll := hs_in 267 (by decide +kernel) (by decide +kernel)
set_option maxRecDepth 100000 in
theorem w_instanceMethod_X1_countEdges : Cond.instanceMethod yX1_countEdges ∈ hsAll := hs_in 268 (by decide +kernel) (by decide +kernel)
set_option maxRecDepth 100000 in
theorem w_code_X1_countEdges : Cond.code yX1_countEdges cX1_countEdges 8 (some .int) ∈ hsAll := hs_in 270 (by decide +kernel) (by decide +kernel)
set_option maxRecDepth 100000 in
theorem w_static_X0_edgesBetween : Cond.static yX0_edgesBetween ∈ hsAll := hs_in 272 (by decide +kernel) (by decide +kernel)
set_option maxRecDepth 100000 in
theorem w_code_X0_edgesBetween : Cond.code yX0_edgesBetween cX0_edgesBetween 2 (some .int) ∈ hsAll := hs_in 273 (by decide +kernel) (by decide +kernel)
set_option maxRecDepth 100000 in
theorem w_methodLink_X0_163 : Cond.methodLink RX0 163 yX0_edgesAmong ∈ hsAll := hs_in 274 (by decide +kernel) (by decide +kernel)
set_option maxRecDepth 100000 in
theorem w_static_X0_edgesAmong : Cond.static yX0_edgesAmong ∈ hsAll := hs_in 275 (by decide +kernel) (by decide +kernel)
set_option maxRecDepth 100000 in
theorem w_code_X0_edgesAmong : Cond.code yX0_edgesAmong cX0_edgesAmong 4 (some .int) ∈ hsAll := hs_in 276 (by decide +kernel) (by decide +kernel)
set_option maxRecDepth 100000 in
theorem w_methodLink_XL_63 : Cond.methodLink RXL 63 yX0_pieces ∈ hsAll := hs_in 278 (by decide +kernel) (by decide +kernel)
set_option maxRecDepth 100000 in
theorem w_instanceMethod_X0_pieces : Cond.instanceMethod yX0_pieces ∈ hsAll := hs_in 279 (by decide +kernel) (by decide +kernel)
set_option maxRecDepth 100000 in
theorem w_code_X0_pieces : Cond.code yX0_pieces cX0_pieces 2 (some .int) ∈ hsAll := hs_in 281 (by decide +kernel) (by decide +kernel)
set_option maxRecDepth 100000 in
theorem w_methodLink_X0_99 : Cond.methodLink RX0 99 yX3_countPieces ∈ hsAll := hs_in 282 (by decide +kernel) (by decide +kernel)
set_option maxRecDepth 100000 in
theorem w_instanceMethod_X3_countPieces : Cond.instanceMethod yX3_countPieces ∈ hsAll := hs_in 283 (by decide +kernel) (by decide +kernel)
set_option maxRecDepth 100000 in
theorem w_code_X3_countPieces : Cond.code yX3_countPieces cX3_countPieces 3 (some .int) ∈ hsAll := hs_in 285 (by decide +kernel) (by decide +kernel)
set_option maxRecDepth 100000 in
theorem w_methodLink_X3_23 : Cond.methodLink RX3 23 yX3_countLeft ∈ hsAll := hs_in 286 (by decide +kernel) (by decide +kernel)
set_option maxRecDepth 100000 in
theorem w_instanceMethod_X3_countLeft : Cond.instanceMethod yX3_countLeft ∈ hsAll := hs_in 288 (by decide +kernel) (by decide +kernel)
set_option maxRecDepth 100000 in
theorem w_code_X3_countLeft : Cond.code yX3_countLeft cX3_countLeft 4 (some .int) ∈ hsAll := hs_in 289 (by decide +kernel) (by decide +kernel)
set_option maxRecDepth 100000 in
theorem w_methodLink_X3_41 : Cond.methodLink RX3 41 yX3_countFrom ∈ hsAll := hs_in 290 (by decide +kernel) (by decide +kernel)
set_option maxRecDepth 100000 in
theorem w_instanceMethod_X3_countFrom : Cond.instanceMethod yX3_countFrom ∈ hsAll := hs_in 292 (by decide +kernel) (by decide +kernel)
set_option maxRecDepth 100000 in
theorem w_code_X3_countFrom : Cond.code yX3_countFrom cX3_countFrom 5 (some .int) ∈ hsAll := hs_in 293 (by decide +kernel) (by decide +kernel)
set_option maxRecDepth 100000 in
theorem w_methodLink_X3_34 : Cond.methodLink RX3 34 yX3_take ∈ hsAll := hs_in 294 (by decide +kernel) (by decide +kernel)
set_option maxRecDepth 100000 in
theorem w_instanceMethod_X3_take : Cond.instanceMethod yX3_take ∈ hsAll := hs_in 296 (by decide +kernel) (by decide +kernel)
set_option maxRecDepth 100000 in
theorem w_code_X3_take : Cond.code yX3_take cX3_take 6 none ∈ hsAll := hs_in 297 (by decide +kernel) (by decide +kernel)
set_option maxRecDepth 100000 in
theorem w_methodLink_X3_38 : Cond.methodLink RX3 38 yX3_spread ∈ hsAll := hs_in 299 (by decide +kernel) (by decide +kernel)
set_option maxRecDepth 100000 in
theorem w_instanceMethod_X3_spread : Cond.instanceMethod yX3_spread ∈ hsAll := hs_in 301 (by decide +kernel) (by decide +kernel)
set_option maxRecDepth 100000 in
theorem w_code_X3_spread : Cond.code yX3_spread cX3_spread 6 none ∈ hsAll := hs_in 302 (by decide +kernel) (by decide +kernel)
set_option maxRecDepth 100000 in
theorem w_methodLink_XL_67 : Cond.methodLink RXL 67 yX0_hollows ∈ hsAll := hs_in 303 (by decide +kernel) (by decide +kernel)
set_option maxRecDepth 100000 in
theorem w_instanceMethod_X0_hollows : Cond.instanceMethod yX0_hollows ∈ hsAll := hs_in 304 (by decide +kernel) (by decide +kernel)
set_option maxRecDepth 100000 in
theorem w_code_X0_hollows : Cond.code yX0_hollows cX0_hollows 2 (some .int) ∈ hsAll := hs_in 306 (by decide +kernel) (by decide +kernel)
set_option maxRecDepth 100000 in
theorem w_methodLink_X0_103 : Cond.methodLink RX0 103 yX3_countHollows ∈ hsAll := hs_in 307 (by decide +kernel) (by decide +kernel)
set_option maxRecDepth 100000 in
theorem w_instanceMethod_X3_countHollows : Cond.instanceMethod yX3_countHollows ∈ hsAll := hs_in 308 (by decide +kernel) (by decide +kernel)
set_option maxRecDepth 100000 in
theorem w_code_X3_countHollows : Cond.code yX3_countHollows cX3_countHollows 3 (some .int) ∈ hsAll := hs_in 310 (by decide +kernel) (by decide +kernel)
set_option maxRecDepth 100000 in
theorem w_methodLink_X3_27 : Cond.methodLink RX3 27 yX3_dropFromBorder ∈ hsAll := hs_in 311 (by decide +kernel) (by decide +kernel)
set_option maxRecDepth 100000 in
theorem w_instanceMethod_X3_dropFromBorder : Cond.instanceMethod yX3_dropFromBorder ∈ hsAll := hs_in 313 (by decide +kernel) (by decide +kernel)
set_option maxRecDepth 100000 in
theorem w_code_X3_dropFromBorder : Cond.code yX3_dropFromBorder cX3_dropFromBorder 4 none ∈ hsAll := hs_in 314 (by decide +kernel) (by decide +kernel)
set_option maxRecDepth 100000 in
theorem w_methodLink_XL_71 : Cond.methodLink RXL 71 yX0_moment ∈ hsAll := hs_in 315 (by decide +kernel) (by decide +kernel)
set_option maxRecDepth 100000 in
theorem w_instanceMethod_X0_moment : Cond.instanceMethod yX0_moment ∈ hsAll := hs_in 316 (by decide +kernel) (by decide +kernel)
set_option maxRecDepth 100000 in
theorem w_code_X0_moment : Cond.code yX0_moment cX0_moment 5 (some .int) ∈ hsAll := hs_in 318 (by decide +kernel) (by decide +kernel)
set_option maxRecDepth 100000 in
theorem w_methodLink_X0_106 : Cond.methodLink RX0 106 yX1_countLayer ∈ hsAll := hs_in 319 (by decide +kernel) (by decide +kernel)
set_option maxRecDepth 100000 in
theorem w_methodLink_XL_75 : Cond.methodLink RXL 75 yX0_extent ∈ hsAll := hs_in 320 (by decide +kernel) (by decide +kernel)
set_option maxRecDepth 100000 in
theorem w_instanceMethod_X0_extent : Cond.instanceMethod yX0_extent ∈ hsAll := hs_in 321 (by decide +kernel) (by decide +kernel)
set_option maxRecDepth 100000 in
theorem w_code_X0_extent : Cond.code yX0_extent cX0_extent 4 (some .int) ∈ hsAll := hs_in 323 (by decide +kernel) (by decide +kernel)
set_option maxRecDepth 100000 in
theorem w_methodLink_XL_80 : Cond.methodLink RXL 80 yX0_inside ∈ hsAll := hs_in 324 (by decide +kernel) (by decide +kernel)
set_option maxRecDepth 100000 in
theorem w_instanceMethod_X0_inside : Cond.instanceMethod yX0_inside ∈ hsAll := hs_in 325 (by decide +kernel) (by decide +kernel)
set_option maxRecDepth 100000 in
theorem w_code_X0_inside : Cond.code yX0_inside cX0_inside 6 (some .int) ∈ hsAll := hs_in 327 (by decide +kernel) (by decide +kernel)
set_option maxRecDepth 100000 in
theorem w_methodLink_X0_116 : Cond.methodLink RX0 116 yX0_isPlane ∈ hsAll := hs_in 328 (by decide +kernel) (by decide +kernel)
set_option maxRecDepth 100000 in
theorem w_static_X0_isPlane : Cond.static yX0_isPlane ∈ hsAll := hs_in 329 (by decide +kernel) (by decide +kernel)
set_option maxRecDepth 100000 in
theorem w_code_X0_isPlane : Cond.code yX0_isPlane cX0_isPlane 1 (some .boolean) ∈ hsAll := hs_in 330 (by decide +kernel) (by decide +kernel)
set_option maxRecDepth 100000 in
theorem w_methodLink_X0_119 : Cond.methodLink RX0 119 yX1_countAround ∈ hsAll := hs_in 331 (by decide +kernel) (by decide +kernel)
set_option maxRecDepth 100000 in
theorem w_instanceMethod_X1_countAround : Cond.instanceMethod yX1_countAround ∈ hsAll := hs_in 332 (by decide +kernel) (by decide +kernel)
set_option maxRecDepth 100000 in
theorem w_code_X1_countAround : Cond.code yX1_countAround cX1_countAround 4 (some .int) ∈ hsAll := hs_in 334 (by decide +kernel) (by decide +kernel)
set_option maxRecDepth 100000 in
theorem w_methodLink_X1_56 : Cond.methodLink RX1 56 yX1_countPair ∈ hsAll := hs_in 335 (by decide +kernel) (by decide +kernel)
set_option maxRecDepth 100000 in
theorem w_instanceMethod_X1_countPair : Cond.instanceMethod yX1_countPair ∈ hsAll := hs_in 337 (by decide +kernel) (by decide +kernel)
set_option maxRecDepth 100000 in
theorem w_code_X1_countPair : Cond.code yX1_countPair cX1_countPair 4 (some .int) ∈ hsAll := hs_in 338 (by decide +kernel) (by decide +kernel)
set_option maxRecDepth 100000 in
theorem w_methodLink_XL_84 : Cond.methodLink RXL 84 yX0_section ∈ hsAll := hs_in 339 (by decide +kernel) (by decide +kernel)
set_option maxRecDepth 100000 in
theorem w_instanceMethod_X0_section : Cond.instanceMethod yX0_section ∈ hsAll := hs_in 340 (by decide +kernel) (by decide +kernel)
set_option maxRecDepth 100000 in
theorem w_code_X0_section : Cond.code yX0_section cX0_section 4 (some .int) ∈ hsAll := hs_in 342 (by decide +kernel) (by decide +kernel)
set_option maxRecDepth 100000 in
theorem w_methodLink_XL_88 : Cond.methodLink RXL 88 yX0_same ∈ hsAll := hs_in 343 (by decide +kernel) (by decide +kernel)
set_option maxRecDepth 100000 in
theorem w_instanceMethod_X0_same : Cond.instanceMethod yX0_same ∈ hsAll := hs_in 344 (by decide +kernel) (by decide +kernel)
set_option maxRecDepth 100000 in
theorem w_code_X0_same : Cond.code yX0_same cX0_same 3 (some .boolean) ∈ hsAll := hs_in 346 (by decide +kernel) (by decide +kernel)
set_option maxRecDepth 100000 in
theorem w_methodLink_X0_123 : Cond.methodLink RX0 123 yX1_hasCellsOf ∈ hsAll := hs_in 347 (by decide +kernel) (by decide +kernel)
set_option maxRecDepth 100000 in
theorem w_instanceMethod_X1_hasCellsOf : Cond.instanceMethod yX1_hasCellsOf ∈ hsAll := hs_in 348 (by decide +kernel) (by decide +kernel)
set_option maxRecDepth 100000 in
theorem w_code_X1_hasCellsOf : Cond.code yX1_hasCellsOf cX1_hasCellsOf 3 (some .boolean) ∈ hsAll := hs_in 350 (by decide +kernel) (by decide +kernel)
set_option maxRecDepth 100000 in
theorem w_methodLink_XL_93 : Cond.methodLink RXL 93 yX0_depth ∈ hsAll := hs_in 351 (by decide +kernel) (by decide +kernel)
set_option maxRecDepth 100000 in
theorem w_instanceMethod_X0_depth : Cond.instanceMethod yX0_depth ∈ hsAll := hs_in 352 (by decide +kernel) (by decide +kernel)
set_option maxRecDepth 100000 in
theorem w_code_X0_depth : Cond.code yX0_depth cX0_depth 6 (some .int) ∈ hsAll := hs_in 354 (by decide +kernel) (by decide +kernel)
set_option maxRecDepth 100000 in
theorem w_methodLink_X0_127 : Cond.methodLink RX0 127 yX1_columnAlong ∈ hsAll := hs_in 355 (by decide +kernel) (by decide +kernel)
set_option maxRecDepth 100000 in
theorem w_methodLink_X0_130 : Cond.methodLink RX0 130 yX0_depthOf ∈ hsAll := hs_in 356 (by decide +kernel) (by decide +kernel)
set_option maxRecDepth 100000 in
theorem w_static_X0_depthOf : Cond.static yX0_depthOf ∈ hsAll := hs_in 357 (by decide +kernel) (by decide +kernel)
set_option maxRecDepth 100000 in
theorem w_code_X0_depthOf : Cond.code yX0_depthOf cX0_depthOf 2 (some .int) ∈ hsAll := hs_in 358 (by decide +kernel) (by decide +kernel)
set_option maxRecDepth 100000 in
theorem w_methodLink_X0_152 : Cond.methodLink RX0 152 yX5_numberOfLeadingZeros ∈ hsAll := hs_in 359 (by decide +kernel) (by decide +kernel)
set_option maxRecDepth 100000 in
theorem w_static_X5_numberOfLeadingZeros : Cond.static yX5_numberOfLeadingZeros ∈ hsAll := hs_in 360 (by decide +kernel) (by decide +kernel)
set_option maxRecDepth 100000 in
theorem w_code_X5_numberOfLeadingZeros : Cond.code yX5_numberOfLeadingZeros cX5_numberOfLeadingZeros 2 (some .int) ∈ hsAll := hs_in 361 (by decide +kernel) (by decide +kernel)
set_option maxRecDepth 100000 in
theorem w_constant_X5_264 : Cond.constant RX5 264 (65536) ∈ hsAll := hs_in 362 (by decide +kernel) (by decide +kernel)
set_option maxRecDepth 100000 in
theorem w_methodLink_X0_157 : Cond.methodLink RX0 157 yX5_numberOfTrailingZeros ∈ hsAll := hs_in 363 (by decide +kernel) (by decide +kernel)
set_option maxRecDepth 100000 in
theorem w_static_X5_numberOfTrailingZeros : Cond.static yX5_numberOfTrailingZeros ∈ hsAll := hs_in 364 (by decide +kernel) (by decide +kernel)
set_option maxRecDepth 100000 in
theorem w_code_X5_numberOfTrailingZeros : Cond.code yX5_numberOfTrailingZeros cX5_numberOfTrailingZeros 2 (some .int) ∈ hsAll := hs_in 365 (by decide +kernel) (by decide +kernel)
set_option maxRecDepth 100000 in
theorem w_methodLink_XL_98 : Cond.methodLink RXL 98 yX0_stroke ∈ hsAll := hs_in 366 (by decide +kernel) (by decide +kernel)
set_option maxRecDepth 100000 in
theorem w_instanceMethod_X0_stroke : Cond.instanceMethod yX0_stroke ∈ hsAll := hs_in 367 (by decide +kernel) (by decide +kernel)
set_option maxRecDepth 100000 in
theorem w_code_X0_stroke : Cond.code yX0_stroke cX0_stroke 8 (some .int) ∈ hsAll := hs_in 369 (by decide +kernel) (by decide +kernel)
set_option maxRecDepth 100000 in
theorem w_methodLink_X0_134 : Cond.methodLink RX0 134 yX0_isStrokePlace ∈ hsAll := hs_in 370 (by decide +kernel) (by decide +kernel)
set_option maxRecDepth 100000 in
theorem w_static_X0_isStrokePlace : Cond.static yX0_isStrokePlace ∈ hsAll := hs_in 371 (by decide +kernel) (by decide +kernel)
set_option maxRecDepth 100000 in
theorem w_code_X0_isStrokePlace : Cond.code yX0_isStrokePlace cX0_isStrokePlace 3 (some .boolean) ∈ hsAll := hs_in 372 (by decide +kernel) (by decide +kernel)
set_option maxRecDepth 100000 in
theorem w_methodLink_X0_138 : Cond.methodLink RX0 138 yX0_strokeBetween ∈ hsAll := hs_in 373 (by decide +kernel) (by decide +kernel)
set_option maxRecDepth 100000 in
theorem w_static_X0_strokeBetween : Cond.static yX0_strokeBetween ∈ hsAll := hs_in 374 (by decide +kernel) (by decide +kernel)
set_option maxRecDepth 100000 in
theorem w_code_X0_strokeBetween : Cond.code yX0_strokeBetween cX0_strokeBetween 3 (some .int) ∈ hsAll := hs_in 375 (by decide +kernel) (by decide +kernel)
set_option maxRecDepth 100000 in
theorem w_methodLink_X0_160 : Cond.methodLink RX0 160 yX0_edgesBetween ∈ hsAll := hs_in 376 (by decide +kernel) (by decide +kernel)
set_option maxRecDepth 100000 in
theorem w_methodLink_XL_103 : Cond.methodLink RXL 103 yX0_strokes ∈ hsAll := hs_in 377 (by decide +kernel) (by decide +kernel)
set_option maxRecDepth 100000 in
theorem w_instanceMethod_X0_strokes : Cond.instanceMethod yX0_strokes ∈ hsAll := hs_in 378 (by decide +kernel) (by decide +kernel)
set_option maxRecDepth 100000 in
theorem w_code_X0_strokes : Cond.code yX0_strokes cX0_strokes 9 (some .int) ∈ hsAll := hs_in 380 (by decide +kernel) (by decide +kernel)
set_option maxRecDepth 100000 in
theorem w_methodLink_X0_142 : Cond.methodLink RX0 142 yX1_becomeView ∈ hsAll := hs_in 381 (by decide +kernel) (by decide +kernel)
set_option maxRecDepth 100000 in
theorem w_instanceMethod_X1_becomeView : Cond.instanceMethod yX1_becomeView ∈ hsAll := hs_in 382 (by decide +kernel) (by decide +kernel)
set_option maxRecDepth 100000 in
theorem w_code_X1_becomeView : Cond.code yX1_becomeView cX1_becomeView 5 none ∈ hsAll := hs_in 384 (by decide +kernel) (by decide +kernel)
set_option maxRecDepth 100000 in
theorem w_methodLink_X0_145 : Cond.methodLink RX0 145 yX1_column ∈ hsAll := hs_in 385 (by decide +kernel) (by decide +kernel)
set_option maxRecDepth 100000 in
theorem w_classLink_XL_10 : Cond.classLink RXL 10 RX4 ∈ hsAll := hs_in 386 (by decide +kernel) (by decide +kernel)
set_option maxRecDepth 100000 in
theorem w_instantiable_X4 : Cond.instantiable RX4 8 ∈ hsAll := hs_in 387 (by decide +kernel) (by decide +kernel)
set_option maxRecDepth 100000 in
theorem w_methodLink_XL_12 : Cond.methodLink RXL 12 yX4_init ∈ hsAll := hs_in 388 (by decide +kernel) (by decide +kernel)
set_option maxRecDepth 100000 in
theorem w_instanceMethod_X4_init : Cond.instanceMethod yX4_init ∈ hsAll := hs_in 389 (by decide +kernel) (by decide +kernel)
set_option maxRecDepth 100000 in
theorem w_code_X4_init : Cond.code yX4_init cX4_init 1 none ∈ hsAll := hs_in 390 (by decide +kernel) (by decide +kernel)
set_option maxRecDepth 100000 in
theorem w_methodLink_X4_1 : Cond.methodLink RX4 1 objectInit ∈ hsAll := hs_in 391 (by decide +kernel) (by decide +kernel)
set_option maxRecDepth 100000 in
theorem w_fieldLink_X4_7 : Cond.fieldLink RX4 7 "HewnSolidsModel" "bits" "[I" ∈ hsAll := hs_in 392 (by decide +kernel) (by decide +kernel)
set_option maxRecDepth 100000 in
theorem w_fieldLink_X4_30 : Cond.fieldLink RX4 30 "HewnSolidsModel" "done" "I" ∈ hsAll := hs_in 393 (by decide +kernel) (by decide +kernel)
set_option maxRecDepth 100000 in
theorem w_fieldLink_X4_38 : Cond.fieldLink RX4 38 "HewnSolidsModel" "all" "I" ∈ hsAll := hs_in 394 (by decide +kernel) (by decide +kernel)
set_option maxRecDepth 100000 in
theorem w_fieldLink_X4_13 : Cond.fieldLink RX4 13 "HewnSolidsModel" "whose" "[I" ∈ hsAll := hs_in 395 (by decide +kernel) (by decide +kernel)
set_option maxRecDepth 100000 in
theorem w_fieldLink_X4_16 : Cond.fieldLink RX4 16 "HewnSolidsModel" "seen" "[I" ∈ hsAll := hs_in 396 (by decide +kernel) (by decide +kernel)
set_option maxRecDepth 100000 in
theorem w_fieldLink_X4_73 : Cond.fieldLink RX4 73 "HewnSolidsModel" "top" "I" ∈ hsAll := hs_in 397 (by decide +kernel) (by decide +kernel)
set_option maxRecDepth 100000 in
theorem w_fieldLink_X4_19 : Cond.fieldLink RX4 19 "HewnSolidsModel" "pile" "[I" ∈ hsAll := hs_in 398 (by decide +kernel) (by decide +kernel)
set_option maxRecDepth 100000 in
theorem w_fieldLink_X4_76 : Cond.fieldLink RX4 76 "HewnSolidsModel" "border" "Z" ∈ hsAll := hs_in 399 (by decide +kernel) (by decide +kernel)
set_option maxRecDepth 100000 in
theorem w_methodLink_XL_45 : Cond.methodLink RXL 45 yX4_undo ∈ hsAll := hs_in 417 (by decide +kernel) (by decide +kernel)
set_option maxRecDepth 100000 in
theorem w_instanceMethod_X4_undo : Cond.instanceMethod yX4_undo ∈ hsAll := hs_in 418 (by decide +kernel) (by decide +kernel)
set_option maxRecDepth 100000 in
theorem w_code_X4_undo : Cond.code yX4_undo cX4_undo 1 (some .int) ∈ hsAll := hs_in 420 (by decide +kernel) (by decide +kernel)
set_option maxRecDepth 100000 in
theorem w_methodLink_X4_34 : Cond.methodLink RX4 34 yX4_copy ∈ hsAll := hs_in 421 (by decide +kernel) (by decide +kernel)
set_option maxRecDepth 100000 in
theorem w_instanceMethod_X4_copy : Cond.instanceMethod yX4_copy ∈ hsAll := hs_in 423 (by decide +kernel) (by decide +kernel)
set_option maxRecDepth 100000 in
theorem w_code_X4_copy : Cond.code yX4_copy cX4_copy 4 none ∈ hsAll := hs_in 424 (by decide +kernel) (by decide +kernel)
set_option maxRecDepth 100000 in
theorem w_methodLink_XL_49 : Cond.methodLink RXL 49 yX4_redo ∈ hsAll := hs_in 425 (by decide +kernel) (by decide +kernel)
set_option maxRecDepth 100000 in
theorem w_instanceMethod_X4_redo : Cond.instanceMethod yX4_redo ∈ hsAll := hs_in 426 (by decide +kernel) (by decide +kernel)
set_option maxRecDepth 100000 in
theorem w_code_X4_redo : Cond.code yX4_redo cX4_redo 1 (some .int) ∈ hsAll := hs_in 428 (by decide +kernel) (by decide +kernel)
set_option maxRecDepth 100000 in
theorem w_methodLink_XL_17 : Cond.methodLink RXL 17 yX4_box ∈ hsAll := hs_in 429 (by decide +kernel) (by decide +kernel)
set_option maxRecDepth 100000 in
theorem w_instanceMethod_X4_box : Cond.instanceMethod yX4_box ∈ hsAll := hs_in 430 (by decide +kernel) (by decide +kernel)
set_option maxRecDepth 100000 in
theorem w_code_X4_box : Cond.code yX4_box cX4_box 10 (some .int) ∈ hsAll := hs_in 432 (by decide +kernel) (by decide +kernel)
set_option maxRecDepth 100000 in
theorem w_methodLink_X4_45 : Cond.methodLink RX4 45 yX4_isSolid ∈ hsAll := hs_in 433 (by decide +kernel) (by decide +kernel)
set_option maxRecDepth 100000 in
theorem w_static_X4_isSolid : Cond.static yX4_isSolid ∈ hsAll := hs_in 434 (by decide +kernel) (by decide +kernel)
set_option maxRecDepth 100000 in
theorem w_code_X4_isSolid : Cond.code yX4_isSolid cX4_isSolid 1 (some .boolean) ∈ hsAll := hs_in 435 (by decide +kernel) (by decide +kernel)
set_option maxRecDepth 100000 in
theorem w_methodLink_X4_22 : Cond.methodLink RX4 22 yX4_isIn ∈ hsAll := hs_in 436 (by decide +kernel) (by decide +kernel)
set_option maxRecDepth 100000 in
theorem w_static_X4_isIn : Cond.static yX4_isIn ∈ hsAll := hs_in 437 (by decide +kernel) (by decide +kernel)
set_option maxRecDepth 100000 in
theorem w_code_X4_isIn : Cond.code yX4_isIn cX4_isIn 2 (some .boolean) ∈ hsAll := hs_in 438 (by decide +kernel) (by decide +kernel)
set_option maxRecDepth 100000 in
theorem w_methodLink_X4_49 : Cond.methodLink RX4 49 yX4_clearDraft ∈ hsAll := hs_in 439 (by decide +kernel) (by decide +kernel)
set_option maxRecDepth 100000 in
theorem w_instanceMethod_X4_clearDraft : Cond.instanceMethod yX4_clearDraft ∈ hsAll := hs_in 441 (by decide +kernel) (by decide +kernel)
set_option maxRecDepth 100000 in
theorem w_code_X4_clearDraft : Cond.code yX4_clearDraft cX4_clearDraft 2 none ∈ hsAll := hs_in 442 (by decide +kernel) (by decide +kernel)
set_option maxRecDepth 100000 in
theorem w_methodLink_X4_52 : Cond.methodLink RX4 52 yX4_put ∈ hsAll := hs_in 443 (by decide +kernel) (by decide +kernel)
set_option maxRecDepth 100000 in
theorem w_instanceMethod_X4_put : Cond.instanceMethod yX4_put ∈ hsAll := hs_in 445 (by decide +kernel) (by decide +kernel)
set_option maxRecDepth 100000 in
theorem w_code_X4_put : Cond.code yX4_put cX4_put 4 none ∈ hsAll := hs_in 446 (by decide +kernel) (by decide +kernel)
set_option maxRecDepth 100000 in
theorem w_methodLink_X4_56 : Cond.methodLink RX4 56 yX4_step ∈ hsAll := hs_in 447 (by decide +kernel) (by decide +kernel)
set_option maxRecDepth 100000 in
theorem w_instanceMethod_X4_step : Cond.instanceMethod yX4_step ∈ hsAll := hs_in 449 (by decide +kernel) (by decide +kernel)
set_option maxRecDepth 100000 in
theorem w_code_X4_step : Cond.code yX4_step cX4_step 3 (some .int) ∈ hsAll := hs_in 450 (by decide +kernel) (by decide +kernel)
set_option maxRecDepth 100000 in
theorem w_methodLink_X4_41 : Cond.methodLink RX4 41 yX4_count ∈ hsAll := hs_in 451 (by decide +kernel) (by decide +kernel)
set_option maxRecDepth 100000 in
theorem w_instanceMethod_X4_count : Cond.instanceMethod yX4_count ∈ hsAll := hs_in 453 (by decide +kernel) (by decide +kernel)
set_option maxRecDepth 100000 in
theorem w_code_X4_count : Cond.code yX4_count cX4_count 4 (some .int) ∈ hsAll := hs_in 454 (by decide +kernel) (by decide +kernel)
set_option maxRecDepth 100000 in
theorem w_methodLink_XL_22 : Cond.methodLink RXL 22 yX4_join ∈ hsAll := hs_in 455 (by decide +kernel) (by decide +kernel)
set_option maxRecDepth 100000 in
theorem w_instanceMethod_X4_join : Cond.instanceMethod yX4_join ∈ hsAll := hs_in 456 (by decide +kernel) (by decide +kernel)
set_option maxRecDepth 100000 in
theorem w_code_X4_join : Cond.code yX4_join cX4_join 9 (some .int) ∈ hsAll := hs_in 458 (by decide +kernel) (by decide +kernel)
set_option maxRecDepth 100000 in
theorem w_methodLink_X4_26 : Cond.methodLink RX4 26 yX4_has ∈ hsAll := hs_in 459 (by decide +kernel) (by decide +kernel)
set_option maxRecDepth 100000 in
theorem w_instanceMethod_X4_has : Cond.instanceMethod yX4_has ∈ hsAll := hs_in 461 (by decide +kernel) (by decide +kernel)
set_option maxRecDepth 100000 in
theorem w_code_X4_has : Cond.code yX4_has cX4_has 5 (some .boolean) ∈ hsAll := hs_in 462 (by decide +kernel) (by decide +kernel)
set_option maxRecDepth 100000 in
theorem w_methodLink_XL_27 : Cond.methodLink RXL 27 yX4_turn ∈ hsAll := hs_in 463 (by decide +kernel) (by decide +kernel)
set_option maxRecDepth 100000 in
theorem w_instanceMethod_X4_turn : Cond.instanceMethod yX4_turn ∈ hsAll := hs_in 464 (by decide +kernel) (by decide +kernel)
set_option maxRecDepth 100000 in
theorem w_code_X4_turn : Cond.code yX4_turn cX4_turn 8 (some .int) ∈ hsAll := hs_in 466 (by decide +kernel) (by decide +kernel)
set_option maxRecDepth 100000 in
theorem w_methodLink_X4_59 : Cond.methodLink RX4 59 yX4_isAxis ∈ hsAll := hs_in 467 (by decide +kernel) (by decide +kernel)
set_option maxRecDepth 100000 in
theorem w_static_X4_isAxis : Cond.static yX4_isAxis ∈ hsAll := hs_in 468 (by decide +kernel) (by decide +kernel)
set_option maxRecDepth 100000 in
theorem w_code_X4_isAxis : Cond.code yX4_isAxis cX4_isAxis 1 (some .boolean) ∈ hsAll := hs_in 469 (by decide +kernel) (by decide +kernel)
set_option maxRecDepth 100000 in
theorem w_methodLink_XL_31 : Cond.methodLink RXL 31 yX4_mirror ∈ hsAll := hs_in 470 (by decide +kernel) (by decide +kernel)
set_option maxRecDepth 100000 in
theorem w_instanceMethod_X4_mirror : Cond.instanceMethod yX4_mirror ∈ hsAll := hs_in 471 (by decide +kernel) (by decide +kernel)
set_option maxRecDepth 100000 in
theorem w_code_X4_mirror : Cond.code yX4_mirror cX4_mirror 7 (some .int) ∈ hsAll := hs_in 473 (by decide +kernel) (by decide +kernel)
set_option maxRecDepth 100000 in
theorem w_methodLink_XL_35 : Cond.methodLink RXL 35 yX4_shift ∈ hsAll := hs_in 474 (by decide +kernel) (by decide +kernel)
set_option maxRecDepth 100000 in
theorem w_instanceMethod_X4_shift : Cond.instanceMethod yX4_shift ∈ hsAll := hs_in 475 (by decide +kernel) (by decide +kernel)
set_option maxRecDepth 100000 in
theorem w_code_X4_shift : Cond.code yX4_shift cX4_shift 9 (some .int) ∈ hsAll := hs_in 477 (by decide +kernel) (by decide +kernel)
set_option maxRecDepth 100000 in
theorem w_methodLink_X4_62 : Cond.methodLink RX4 62 yX4_shifted ∈ hsAll := hs_in 478 (by decide +kernel) (by decide +kernel)
set_option maxRecDepth 100000 in
theorem w_static_X4_shifted : Cond.static yX4_shifted ∈ hsAll := hs_in 479 (by decide +kernel) (by decide +kernel)
set_option maxRecDepth 100000 in
theorem w_code_X4_shifted : Cond.code yX4_shifted cX4_shifted 2 (some .int) ∈ hsAll := hs_in 480 (by decide +kernel) (by decide +kernel)
set_option maxRecDepth 100000 in
theorem w_methodLink_XL_40 : Cond.methodLink RXL 40 yX4_sweep ∈ hsAll := hs_in 481 (by decide +kernel) (by decide +kernel)
set_option maxRecDepth 100000 in
theorem w_instanceMethod_X4_sweep : Cond.instanceMethod yX4_sweep ∈ hsAll := hs_in 482 (by decide +kernel) (by decide +kernel)
set_option maxRecDepth 100000 in
theorem w_code_X4_sweep : Cond.code yX4_sweep cX4_sweep 10 (some .int) ∈ hsAll := hs_in 484 (by decide +kernel) (by decide +kernel)
set_option maxRecDepth 100000 in
theorem w_methodLink_X4_66 : Cond.methodLink RX4 66 yX4_hasBy ∈ hsAll := hs_in 485 (by decide +kernel) (by decide +kernel)
set_option maxRecDepth 100000 in
theorem w_instanceMethod_X4_hasBy : Cond.instanceMethod yX4_hasBy ∈ hsAll := hs_in 487 (by decide +kernel) (by decide +kernel)
set_option maxRecDepth 100000 in
theorem w_code_X4_hasBy : Cond.code yX4_hasBy cX4_hasBy 6 (some .boolean) ∈ hsAll := hs_in 488 (by decide +kernel) (by decide +kernel)
set_option maxRecDepth 100000 in
theorem w_methodLink_XL_54 : Cond.methodLink RXL 54 yX4_volume ∈ hsAll := hs_in 489 (by decide +kernel) (by decide +kernel)
set_option maxRecDepth 100000 in
theorem w_instanceMethod_X4_volume : Cond.instanceMethod yX4_volume ∈ hsAll := hs_in 490 (by decide +kernel) (by decide +kernel)
set_option maxRecDepth 100000 in
theorem w_code_X4_volume : Cond.code yX4_volume cX4_volume 2 (some .int) ∈ hsAll := hs_in 492 (by decide +kernel) (by decide +kernel)
set_option maxRecDepth 100000 in
theorem w_methodLink_XL_58 : Cond.methodLink RXL 58 yX4_sides ∈ hsAll := hs_in 493 (by decide +kernel) (by decide +kernel)
set_option maxRecDepth 100000 in
theorem w_instanceMethod_X4_sides : Cond.instanceMethod yX4_sides ∈ hsAll := hs_in 494 (by decide +kernel) (by decide +kernel)
set_option maxRecDepth 100000 in
theorem w_code_X4_sides : Cond.code yX4_sides cX4_sides 7 (some .int) ∈ hsAll := hs_in 496 (by decide +kernel) (by decide +kernel)
set_option maxRecDepth 100000 in
theorem w_methodLink_XL_62 : Cond.methodLink RXL 62 yX4_edges ∈ hsAll := hs_in 497 (by decide +kernel) (by decide +kernel)
set_option maxRecDepth 100000 in
theorem w_instanceMethod_X4_edges : Cond.instanceMethod yX4_edges ∈ hsAll := hs_in 498 (by decide +kernel) (by decide +kernel)
set_option maxRecDepth 100000 in
theorem w_code_X4_edges : Cond.code yX4_edges cX4_edges 7 (some .int) ∈ hsAll := hs_in 500 (by decide +kernel) (by decide +kernel)
set_option maxRecDepth 100000 in
theorem w_methodLink_X4_70 : Cond.methodLink RX4 70 yX4_isEdge ∈ hsAll := hs_in 501 (by decide +kernel) (by decide +kernel)
set_option maxRecDepth 100000 in
theorem w_instanceMethod_X4_isEdge : Cond.instanceMethod yX4_isEdge ∈ hsAll := hs_in 503 (by decide +kernel) (by decide +kernel)
set_option maxRecDepth 100000 in
theorem w_code_X4_isEdge : Cond.code yX4_isEdge cX4_isEdge 11 (some .boolean) ∈ hsAll := hs_in 504 (by decide +kernel) (by decide +kernel)
set_option maxRecDepth 100000 in
theorem w_methodLink_XL_66 : Cond.methodLink RXL 66 yX4_pieces ∈ hsAll := hs_in 505 (by decide +kernel) (by decide +kernel)
set_option maxRecDepth 100000 in
theorem w_instanceMethod_X4_pieces : Cond.instanceMethod yX4_pieces ∈ hsAll := hs_in 506 (by decide +kernel) (by decide +kernel)
set_option maxRecDepth 100000 in
theorem w_code_X4_pieces : Cond.code yX4_pieces cX4_pieces 2 (some .int) ∈ hsAll := hs_in 508 (by decide +kernel) (by decide +kernel)
set_option maxRecDepth 100000 in
theorem w_methodLink_X4_91 : Cond.methodLink RX4 91 yX4_sets ∈ hsAll := hs_in 509 (by decide +kernel) (by decide +kernel)
set_option maxRecDepth 100000 in
theorem w_instanceMethod_X4_sets : Cond.instanceMethod yX4_sets ∈ hsAll := hs_in 511 (by decide +kernel) (by decide +kernel)
set_option maxRecDepth 100000 in
theorem w_code_X4_sets : Cond.code yX4_sets cX4_sets 5 (some .int) ∈ hsAll := hs_in 512 (by decide +kernel) (by decide +kernel)
set_option maxRecDepth 100000 in
theorem w_methodLink_X4_83 : Cond.methodLink RX4 83 yX4_see ∈ hsAll := hs_in 513 (by decide +kernel) (by decide +kernel)
set_option maxRecDepth 100000 in
theorem w_instanceMethod_X4_see : Cond.instanceMethod yX4_see ∈ hsAll := hs_in 515 (by decide +kernel) (by decide +kernel)
set_option maxRecDepth 100000 in
theorem w_code_X4_see : Cond.code yX4_see cX4_see 6 none ∈ hsAll := hs_in 516 (by decide +kernel) (by decide +kernel)
set_option maxRecDepth 100000 in
theorem w_methodLink_X4_87 : Cond.methodLink RX4 87 yX4_spread ∈ hsAll := hs_in 517 (by decide +kernel) (by decide +kernel)
set_option maxRecDepth 100000 in
theorem w_instanceMethod_X4_spread : Cond.instanceMethod yX4_spread ∈ hsAll := hs_in 519 (by decide +kernel) (by decide +kernel)
set_option maxRecDepth 100000 in
theorem w_code_X4_spread : Cond.code yX4_spread cX4_spread 6 none ∈ hsAll := hs_in 520 (by decide +kernel) (by decide +kernel)
set_option maxRecDepth 100000 in
theorem w_methodLink_X4_80 : Cond.methodLink RX4 80 yX4_isBorder ∈ hsAll := hs_in 521 (by decide +kernel) (by decide +kernel)
set_option maxRecDepth 100000 in
theorem w_static_X4_isBorder : Cond.static yX4_isBorder ∈ hsAll := hs_in 522 (by decide +kernel) (by decide +kernel)
set_option maxRecDepth 100000 in
theorem w_code_X4_isBorder : Cond.code yX4_isBorder cX4_isBorder 1 (some .boolean) ∈ hsAll := hs_in 523 (by decide +kernel) (by decide +kernel)
set_option maxRecDepth 100000 in
theorem w_methodLink_XL_70 : Cond.methodLink RXL 70 yX4_hollows ∈ hsAll := hs_in 524 (by decide +kernel) (by decide +kernel)
set_option maxRecDepth 100000 in
theorem w_instanceMethod_X4_hollows : Cond.instanceMethod yX4_hollows ∈ hsAll := hs_in 525 (by decide +kernel) (by decide +kernel)
set_option maxRecDepth 100000 in
theorem w_code_X4_hollows : Cond.code yX4_hollows cX4_hollows 2 (some .int) ∈ hsAll := hs_in 527 (by decide +kernel) (by decide +kernel)
set_option maxRecDepth 100000 in
theorem w_methodLink_XL_74 : Cond.methodLink RXL 74 yX4_moment ∈ hsAll := hs_in 528 (by decide +kernel) (by decide +kernel)
set_option maxRecDepth 100000 in
theorem w_instanceMethod_X4_moment : Cond.instanceMethod yX4_moment ∈ hsAll := hs_in 529 (by decide +kernel) (by decide +kernel)
set_option maxRecDepth 100000 in
theorem w_code_X4_moment : Cond.code yX4_moment cX4_moment 5 (some .int) ∈ hsAll := hs_in 531 (by decide +kernel) (by decide +kernel)
set_option maxRecDepth 100000 in
theorem w_methodLink_X4_95 : Cond.methodLink RX4 95 yX4_countAt ∈ hsAll := hs_in 532 (by decide +kernel) (by decide +kernel)
set_option maxRecDepth 100000 in
theorem w_instanceMethod_X4_countAt : Cond.instanceMethod yX4_countAt ∈ hsAll := hs_in 534 (by decide +kernel) (by decide +kernel)
set_option maxRecDepth 100000 in
theorem w_code_X4_countAt : Cond.code yX4_countAt cX4_countAt 6 (some .int) ∈ hsAll := hs_in 535 (by decide +kernel) (by decide +kernel)
set_option maxRecDepth 100000 in
theorem w_methodLink_XL_79 : Cond.methodLink RXL 79 yX4_extent ∈ hsAll := hs_in 536 (by decide +kernel) (by decide +kernel)
set_option maxRecDepth 100000 in
theorem w_instanceMethod_X4_extent : Cond.instanceMethod yX4_extent ∈ hsAll := hs_in 537 (by decide +kernel) (by decide +kernel)
set_option maxRecDepth 100000 in
theorem w_code_X4_extent : Cond.code yX4_extent cX4_extent 7 (some .int) ∈ hsAll := hs_in 539 (by decide +kernel) (by decide +kernel)
set_option maxRecDepth 100000 in
theorem w_methodLink_XL_83 : Cond.methodLink RXL 83 yX4_inside ∈ hsAll := hs_in 540 (by decide +kernel) (by decide +kernel)
set_option maxRecDepth 100000 in
theorem w_instanceMethod_X4_inside : Cond.instanceMethod yX4_inside ∈ hsAll := hs_in 541 (by decide +kernel) (by decide +kernel)
set_option maxRecDepth 100000 in
theorem w_code_X4_inside : Cond.code yX4_inside cX4_inside 9 (some .int) ∈ hsAll := hs_in 543 (by decide +kernel) (by decide +kernel)
set_option maxRecDepth 100000 in
theorem w_methodLink_XL_87 : Cond.methodLink RXL 87 yX4_section ∈ hsAll := hs_in 544 (by decide +kernel) (by decide +kernel)
set_option maxRecDepth 100000 in
theorem w_instanceMethod_X4_section : Cond.instanceMethod yX4_section ∈ hsAll := hs_in 545 (by decide +kernel) (by decide +kernel)
set_option maxRecDepth 100000 in
theorem w_code_X4_section : Cond.code yX4_section cX4_section 4 (some .int) ∈ hsAll := hs_in 547 (by decide +kernel) (by decide +kernel)
set_option maxRecDepth 100000 in
theorem w_methodLink_XL_92 : Cond.methodLink RXL 92 yX4_same ∈ hsAll := hs_in 548 (by decide +kernel) (by decide +kernel)
set_option maxRecDepth 100000 in
theorem w_instanceMethod_X4_same : Cond.instanceMethod yX4_same ∈ hsAll := hs_in 549 (by decide +kernel) (by decide +kernel)
set_option maxRecDepth 100000 in
theorem w_code_X4_same : Cond.code yX4_same cX4_same 5 (some .boolean) ∈ hsAll := hs_in 551 (by decide +kernel) (by decide +kernel)
set_option maxRecDepth 100000 in
theorem w_methodLink_XL_97 : Cond.methodLink RXL 97 yX4_depth ∈ hsAll := hs_in 552 (by decide +kernel) (by decide +kernel)
set_option maxRecDepth 100000 in
theorem w_instanceMethod_X4_depth : Cond.instanceMethod yX4_depth ∈ hsAll := hs_in 553 (by decide +kernel) (by decide +kernel)
set_option maxRecDepth 100000 in
theorem w_code_X4_depth : Cond.code yX4_depth cX4_depth 6 (some .int) ∈ hsAll := hs_in 555 (by decide +kernel) (by decide +kernel)
set_option maxRecDepth 100000 in
theorem w_methodLink_X4_99 : Cond.methodLink RX4 99 yX4_depthOf ∈ hsAll := hs_in 556 (by decide +kernel) (by decide +kernel)
set_option maxRecDepth 100000 in
theorem w_instanceMethod_X4_depthOf : Cond.instanceMethod yX4_depthOf ∈ hsAll := hs_in 558 (by decide +kernel) (by decide +kernel)
set_option maxRecDepth 100000 in
theorem w_code_X4_depthOf : Cond.code yX4_depthOf cX4_depthOf 7 (some .int) ∈ hsAll := hs_in 559 (by decide +kernel) (by decide +kernel)
set_option maxRecDepth 100000 in
theorem w_methodLink_XL_102 : Cond.methodLink RXL 102 yX4_stroke ∈ hsAll := hs_in 560 (by decide +kernel) (by decide +kernel)
set_option maxRecDepth 100000 in
theorem w_instanceMethod_X4_stroke : Cond.instanceMethod yX4_stroke ∈ hsAll := hs_in 561 (by decide +kernel) (by decide +kernel)
set_option maxRecDepth 100000 in
theorem w_code_X4_stroke : Cond.code yX4_stroke cX4_stroke 8 (some .int) ∈ hsAll := hs_in 563 (by decide +kernel) (by decide +kernel)
set_option maxRecDepth 100000 in
theorem w_methodLink_X4_107 : Cond.methodLink RX4 107 yX4_strokeOf ∈ hsAll := hs_in 564 (by decide +kernel) (by decide +kernel)
set_option maxRecDepth 100000 in
theorem w_instanceMethod_X4_strokeOf : Cond.instanceMethod yX4_strokeOf ∈ hsAll := hs_in 566 (by decide +kernel) (by decide +kernel)
set_option maxRecDepth 100000 in
theorem w_code_X4_strokeOf : Cond.code yX4_strokeOf cX4_strokeOf 10 (some .int) ∈ hsAll := hs_in 567 (by decide +kernel) (by decide +kernel)
set_option maxRecDepth 100000 in
theorem w_methodLink_X4_103 : Cond.methodLink RX4 103 yX4_isEdgeAt ∈ hsAll := hs_in 568 (by decide +kernel) (by decide +kernel)
set_option maxRecDepth 100000 in
theorem w_instanceMethod_X4_isEdgeAt : Cond.instanceMethod yX4_isEdgeAt ∈ hsAll := hs_in 570 (by decide +kernel) (by decide +kernel)
set_option maxRecDepth 100000 in
theorem w_code_X4_isEdgeAt : Cond.code yX4_isEdgeAt cX4_isEdgeAt 7 (some .boolean) ∈ hsAll := hs_in 571 (by decide +kernel) (by decide +kernel)
set_option maxRecDepth 100000 in
theorem w_methodLink_XL_107 : Cond.methodLink RXL 107 yX4_strokes ∈ hsAll := hs_in 572 (by decide +kernel) (by decide +kernel)
set_option maxRecDepth 100000 in
theorem w_instanceMethod_X4_strokes : Cond.instanceMethod yX4_strokes ∈ hsAll := hs_in 573 (by decide +kernel) (by decide +kernel)
set_option maxRecDepth 100000 in
theorem w_code_X4_strokes : Cond.code yX4_strokes cX4_strokes 8 (some .int) ∈ hsAll := hs_in 575 (by decide +kernel) (by decide +kernel)
set_option maxRecDepth 100000 in
theorem w_selects_X0_box : Cond.selects RX0 yX0_box yX0_box ∈ hsAll := hs_in 109 (by decide +kernel) (by decide +kernel)
set_option maxRecDepth 100000 in
theorem w_selects_X1_becomeBox : Cond.selects RX1 yX1_becomeBox yX1_becomeBox ∈ hsAll := hs_in 122 (by decide +kernel) (by decide +kernel)
set_option maxRecDepth 100000 in
theorem w_selects_X0_takeStep : Cond.selects RX0 yX0_takeStep yX0_takeStep ∈ hsAll := hs_in 0 (by decide +kernel) (by decide +kernel)
set_option maxRecDepth 100000 in
theorem w_selects_X2_keep : Cond.selects RX2 yX2_keep yX2_keep ∈ hsAll := hs_in 133 (by decide +kernel) (by decide +kernel)
set_option maxRecDepth 100000 in
theorem w_selects_X1_countCells : Cond.selects RX1 yX1_countCells yX1_countCells ∈ hsAll := hs_in 137 (by decide +kernel) (by decide +kernel)
set_option maxRecDepth 100000 in
theorem w_selects_X0_join : Cond.selects RX0 yX0_join yX0_join ∈ hsAll := hs_in 147 (by decide +kernel) (by decide +kernel)
set_option maxRecDepth 100000 in
theorem w_selects_X1_becomeJoined : Cond.selects RX1 yX1_becomeJoined yX1_becomeJoined ∈ hsAll := hs_in 151 (by decide +kernel) (by decide +kernel)
set_option maxRecDepth 100000 in
theorem w_selects_X0_turn : Cond.selects RX0 yX0_turn yX0_turn ∈ hsAll := hs_in 158 (by decide +kernel) (by decide +kernel)
set_option maxRecDepth 100000 in
theorem w_selects_X1_becomeTurned : Cond.selects RX1 yX1_becomeTurned yX1_becomeTurned ∈ hsAll := hs_in 165 (by decide +kernel) (by decide +kernel)
set_option maxRecDepth 100000 in
theorem w_selects_X1_columnAlong : Cond.selects RX1 yX1_columnAlong yX1_columnAlong ∈ hsAll := hs_in 172 (by decide +kernel) (by decide +kernel)
set_option maxRecDepth 100000 in
theorem w_selects_X1_column : Cond.selects RX1 yX1_column yX1_column ∈ hsAll := hs_in 176 (by decide +kernel) (by decide +kernel)
set_option maxRecDepth 100000 in
theorem w_selects_X0_mirror : Cond.selects RX0 yX0_mirror yX0_mirror ∈ hsAll := hs_in 191 (by decide +kernel) (by decide +kernel)
set_option maxRecDepth 100000 in
theorem w_selects_X1_becomeMirrored : Cond.selects RX1 yX1_becomeMirrored yX1_becomeMirrored ∈ hsAll := hs_in 195 (by decide +kernel) (by decide +kernel)
set_option maxRecDepth 100000 in
theorem w_selects_X0_shift : Cond.selects RX0 yX0_shift yX0_shift ∈ hsAll := hs_in 202 (by decide +kernel) (by decide +kernel)
set_option maxRecDepth 100000 in
theorem w_selects_X1_leastAlong : Cond.selects RX1 yX1_leastAlong yX1_leastAlong ∈ hsAll := hs_in 209 (by decide +kernel) (by decide +kernel)
set_option maxRecDepth 100000 in
theorem w_selects_X1_countLayer : Cond.selects RX1 yX1_countLayer yX1_countLayer ∈ hsAll := hs_in 213 (by decide +kernel) (by decide +kernel)
set_option maxRecDepth 100000 in
theorem w_selects_X1_greatestAlong : Cond.selects RX1 yX1_greatestAlong yX1_greatestAlong ∈ hsAll := hs_in 217 (by decide +kernel) (by decide +kernel)
set_option maxRecDepth 100000 in
theorem w_selects_X1_becomeShifted : Cond.selects RX1 yX1_becomeShifted yX1_becomeShifted ∈ hsAll := hs_in 221 (by decide +kernel) (by decide +kernel)
set_option maxRecDepth 100000 in
theorem w_selects_X0_sweep : Cond.selects RX0 yX0_sweep yX0_sweep ∈ hsAll := hs_in 225 (by decide +kernel) (by decide +kernel)
set_option maxRecDepth 100000 in
theorem w_selects_X1_becomeSwept : Cond.selects RX1 yX1_becomeSwept yX1_becomeSwept ∈ hsAll := hs_in 229 (by decide +kernel) (by decide +kernel)
set_option maxRecDepth 100000 in
theorem w_selects_X0_undo : Cond.selects RX0 yX0_undo yX0_undo ∈ hsAll := hs_in 233 (by decide +kernel) (by decide +kernel)
set_option maxRecDepth 100000 in
theorem w_selects_X2_takeBack : Cond.selects RX2 yX2_takeBack yX2_takeBack ∈ hsAll := hs_in 237 (by decide +kernel) (by decide +kernel)
set_option maxRecDepth 100000 in
theorem w_selects_X2_exchange : Cond.selects RX2 yX2_exchange yX2_exchange ∈ hsAll := hs_in 1 (by decide +kernel) (by decide +kernel)
set_option maxRecDepth 100000 in
theorem w_selects_X0_redo : Cond.selects RX0 yX0_redo yX0_redo ∈ hsAll := hs_in 245 (by decide +kernel) (by decide +kernel)
set_option maxRecDepth 100000 in
theorem w_selects_X2_doAgain : Cond.selects RX2 yX2_doAgain yX2_doAgain ∈ hsAll := hs_in 249 (by decide +kernel) (by decide +kernel)
set_option maxRecDepth 100000 in
theorem w_selects_X0_volume : Cond.selects RX0 yX0_volume yX0_volume ∈ hsAll := hs_in 253 (by decide +kernel) (by decide +kernel)
set_option maxRecDepth 100000 in
theorem w_selects_X0_sides : Cond.selects RX0 yX0_sides yX0_sides ∈ hsAll := hs_in 257 (by decide +kernel) (by decide +kernel)
set_option maxRecDepth 100000 in
theorem w_selects_X1_countSides : Cond.selects RX1 yX1_countSides yX1_countSides ∈ hsAll := hs_in 261 (by decide +kernel) (by decide +kernel)
set_option maxRecDepth 100000 in
theorem w_selects_X0_edges : Cond.selects RX0 yX0_edges yX0_edges ∈ hsAll := hs_in 265 (by decide +kernel) (by decide +kernel)
set_option maxRecDepth 100000 in
theorem w_selects_X1_countEdges : Cond.selects RX1 yX1_countEdges yX1_countEdges ∈ hsAll := hs_in 269 (by decide +kernel) (by decide +kernel)
set_option maxRecDepth 100000 in
theorem w_selects_X0_pieces : Cond.selects RX0 yX0_pieces yX0_pieces ∈ hsAll := hs_in 280 (by decide +kernel) (by decide +kernel)
set_option maxRecDepth 100000 in
theorem w_selects_X3_countPieces : Cond.selects RX3 yX3_countPieces yX3_countPieces ∈ hsAll := hs_in 284 (by decide +kernel) (by decide +kernel)
set_option maxRecDepth 100000 in
theorem w_selects_X3_countLeft : Cond.selects RX3 yX3_countLeft yX3_countLeft ∈ hsAll := hs_in 2 (by decide +kernel) (by decide +kernel)
set_option maxRecDepth 100000 in
theorem w_selects_X3_countFrom : Cond.selects RX3 yX3_countFrom yX3_countFrom ∈ hsAll := hs_in 3 (by decide +kernel) (by decide +kernel)
set_option maxRecDepth 100000 in
theorem w_selects_X3_take : Cond.selects RX3 yX3_take yX3_take ∈ hsAll := hs_in 4 (by decide +kernel) (by decide +kernel)
set_option maxRecDepth 100000 in
theorem w_selects_X3_spread : Cond.selects RX3 yX3_spread yX3_spread ∈ hsAll := hs_in 5 (by decide +kernel) (by decide +kernel)
set_option maxRecDepth 100000 in
theorem w_selects_X0_hollows : Cond.selects RX0 yX0_hollows yX0_hollows ∈ hsAll := hs_in 305 (by decide +kernel) (by decide +kernel)
set_option maxRecDepth 100000 in
theorem w_selects_X3_countHollows : Cond.selects RX3 yX3_countHollows yX3_countHollows ∈ hsAll := hs_in 309 (by decide +kernel) (by decide +kernel)
set_option maxRecDepth 100000 in
theorem w_selects_X3_dropFromBorder : Cond.selects RX3 yX3_dropFromBorder yX3_dropFromBorder ∈ hsAll := hs_in 6 (by decide +kernel) (by decide +kernel)
set_option maxRecDepth 100000 in
theorem w_selects_X0_moment : Cond.selects RX0 yX0_moment yX0_moment ∈ hsAll := hs_in 317 (by decide +kernel) (by decide +kernel)
set_option maxRecDepth 100000 in
theorem w_selects_X0_extent : Cond.selects RX0 yX0_extent yX0_extent ∈ hsAll := hs_in 322 (by decide +kernel) (by decide +kernel)
set_option maxRecDepth 100000 in
theorem w_selects_X0_inside : Cond.selects RX0 yX0_inside yX0_inside ∈ hsAll := hs_in 326 (by decide +kernel) (by decide +kernel)
set_option maxRecDepth 100000 in
theorem w_selects_X1_countAround : Cond.selects RX1 yX1_countAround yX1_countAround ∈ hsAll := hs_in 333 (by decide +kernel) (by decide +kernel)
set_option maxRecDepth 100000 in
theorem w_selects_X1_countPair : Cond.selects RX1 yX1_countPair yX1_countPair ∈ hsAll := hs_in 7 (by decide +kernel) (by decide +kernel)
set_option maxRecDepth 100000 in
theorem w_selects_X0_section : Cond.selects RX0 yX0_section yX0_section ∈ hsAll := hs_in 341 (by decide +kernel) (by decide +kernel)
set_option maxRecDepth 100000 in
theorem w_selects_X0_same : Cond.selects RX0 yX0_same yX0_same ∈ hsAll := hs_in 345 (by decide +kernel) (by decide +kernel)
set_option maxRecDepth 100000 in
theorem w_selects_X1_hasCellsOf : Cond.selects RX1 yX1_hasCellsOf yX1_hasCellsOf ∈ hsAll := hs_in 349 (by decide +kernel) (by decide +kernel)
set_option maxRecDepth 100000 in
theorem w_selects_X0_depth : Cond.selects RX0 yX0_depth yX0_depth ∈ hsAll := hs_in 353 (by decide +kernel) (by decide +kernel)
set_option maxRecDepth 100000 in
theorem w_selects_X0_stroke : Cond.selects RX0 yX0_stroke yX0_stroke ∈ hsAll := hs_in 368 (by decide +kernel) (by decide +kernel)
set_option maxRecDepth 100000 in
theorem w_selects_X0_strokes : Cond.selects RX0 yX0_strokes yX0_strokes ∈ hsAll := hs_in 379 (by decide +kernel) (by decide +kernel)
set_option maxRecDepth 100000 in
theorem w_selects_X1_becomeView : Cond.selects RX1 yX1_becomeView yX1_becomeView ∈ hsAll := hs_in 383 (by decide +kernel) (by decide +kernel)
set_option maxRecDepth 100000 in
theorem w_selects_X4_undo : Cond.selects RX4 yX4_undo yX4_undo ∈ hsAll := hs_in 419 (by decide +kernel) (by decide +kernel)
set_option maxRecDepth 100000 in
theorem w_selects_X4_copy : Cond.selects RX4 yX4_copy yX4_copy ∈ hsAll := hs_in 8 (by decide +kernel) (by decide +kernel)
set_option maxRecDepth 100000 in
theorem w_selects_X4_redo : Cond.selects RX4 yX4_redo yX4_redo ∈ hsAll := hs_in 427 (by decide +kernel) (by decide +kernel)
set_option maxRecDepth 100000 in
theorem w_selects_X4_box : Cond.selects RX4 yX4_box yX4_box ∈ hsAll := hs_in 431 (by decide +kernel) (by decide +kernel)
set_option maxRecDepth 100000 in
theorem w_selects_X4_clearDraft : Cond.selects RX4 yX4_clearDraft yX4_clearDraft ∈ hsAll := hs_in 9 (by decide +kernel) (by decide +kernel)
set_option maxRecDepth 100000 in
theorem w_selects_X4_put : Cond.selects RX4 yX4_put yX4_put ∈ hsAll := hs_in 10 (by decide +kernel) (by decide +kernel)
set_option maxRecDepth 100000 in
theorem w_selects_X4_step : Cond.selects RX4 yX4_step yX4_step ∈ hsAll := hs_in 11 (by decide +kernel) (by decide +kernel)
set_option maxRecDepth 100000 in
theorem w_selects_X4_count : Cond.selects RX4 yX4_count yX4_count ∈ hsAll := hs_in 12 (by decide +kernel) (by decide +kernel)
set_option maxRecDepth 100000 in
theorem w_selects_X4_join : Cond.selects RX4 yX4_join yX4_join ∈ hsAll := hs_in 457 (by decide +kernel) (by decide +kernel)
set_option maxRecDepth 100000 in
theorem w_selects_X4_has : Cond.selects RX4 yX4_has yX4_has ∈ hsAll := hs_in 13 (by decide +kernel) (by decide +kernel)
set_option maxRecDepth 100000 in
theorem w_selects_X4_turn : Cond.selects RX4 yX4_turn yX4_turn ∈ hsAll := hs_in 465 (by decide +kernel) (by decide +kernel)
set_option maxRecDepth 100000 in
theorem w_selects_X4_mirror : Cond.selects RX4 yX4_mirror yX4_mirror ∈ hsAll := hs_in 472 (by decide +kernel) (by decide +kernel)
set_option maxRecDepth 100000 in
theorem w_selects_X4_shift : Cond.selects RX4 yX4_shift yX4_shift ∈ hsAll := hs_in 476 (by decide +kernel) (by decide +kernel)
set_option maxRecDepth 100000 in
theorem w_selects_X4_sweep : Cond.selects RX4 yX4_sweep yX4_sweep ∈ hsAll := hs_in 483 (by decide +kernel) (by decide +kernel)
set_option maxRecDepth 100000 in
theorem w_selects_X4_hasBy : Cond.selects RX4 yX4_hasBy yX4_hasBy ∈ hsAll := hs_in 14 (by decide +kernel) (by decide +kernel)
set_option maxRecDepth 100000 in
theorem w_selects_X4_volume : Cond.selects RX4 yX4_volume yX4_volume ∈ hsAll := hs_in 491 (by decide +kernel) (by decide +kernel)
set_option maxRecDepth 100000 in
theorem w_selects_X4_sides : Cond.selects RX4 yX4_sides yX4_sides ∈ hsAll := hs_in 495 (by decide +kernel) (by decide +kernel)
set_option maxRecDepth 100000 in
theorem w_selects_X4_edges : Cond.selects RX4 yX4_edges yX4_edges ∈ hsAll := hs_in 499 (by decide +kernel) (by decide +kernel)
set_option maxRecDepth 100000 in
theorem w_selects_X4_isEdge : Cond.selects RX4 yX4_isEdge yX4_isEdge ∈ hsAll := hs_in 15 (by decide +kernel) (by decide +kernel)
set_option maxRecDepth 100000 in
theorem w_selects_X4_pieces : Cond.selects RX4 yX4_pieces yX4_pieces ∈ hsAll := hs_in 507 (by decide +kernel) (by decide +kernel)
set_option maxRecDepth 100000 in
theorem w_selects_X4_sets : Cond.selects RX4 yX4_sets yX4_sets ∈ hsAll := hs_in 16 (by decide +kernel) (by decide +kernel)
set_option maxRecDepth 100000 in
theorem w_selects_X4_see : Cond.selects RX4 yX4_see yX4_see ∈ hsAll := hs_in 17 (by decide +kernel) (by decide +kernel)
set_option maxRecDepth 100000 in
theorem w_selects_X4_spread : Cond.selects RX4 yX4_spread yX4_spread ∈ hsAll := hs_in 18 (by decide +kernel) (by decide +kernel)
set_option maxRecDepth 100000 in
theorem w_selects_X4_hollows : Cond.selects RX4 yX4_hollows yX4_hollows ∈ hsAll := hs_in 526 (by decide +kernel) (by decide +kernel)
set_option maxRecDepth 100000 in
theorem w_selects_X4_moment : Cond.selects RX4 yX4_moment yX4_moment ∈ hsAll := hs_in 530 (by decide +kernel) (by decide +kernel)
set_option maxRecDepth 100000 in
theorem w_selects_X4_countAt : Cond.selects RX4 yX4_countAt yX4_countAt ∈ hsAll := hs_in 19 (by decide +kernel) (by decide +kernel)
set_option maxRecDepth 100000 in
theorem w_selects_X4_extent : Cond.selects RX4 yX4_extent yX4_extent ∈ hsAll := hs_in 538 (by decide +kernel) (by decide +kernel)
set_option maxRecDepth 100000 in
theorem w_selects_X4_inside : Cond.selects RX4 yX4_inside yX4_inside ∈ hsAll := hs_in 542 (by decide +kernel) (by decide +kernel)
set_option maxRecDepth 100000 in
theorem w_selects_X4_section : Cond.selects RX4 yX4_section yX4_section ∈ hsAll := hs_in 546 (by decide +kernel) (by decide +kernel)
set_option maxRecDepth 100000 in
theorem w_selects_X4_same : Cond.selects RX4 yX4_same yX4_same ∈ hsAll := hs_in 550 (by decide +kernel) (by decide +kernel)
set_option maxRecDepth 100000 in
theorem w_selects_X4_depth : Cond.selects RX4 yX4_depth yX4_depth ∈ hsAll := hs_in 554 (by decide +kernel) (by decide +kernel)
set_option maxRecDepth 100000 in
theorem w_selects_X4_depthOf : Cond.selects RX4 yX4_depthOf yX4_depthOf ∈ hsAll := hs_in 20 (by decide +kernel) (by decide +kernel)
set_option maxRecDepth 100000 in
theorem w_selects_X4_stroke : Cond.selects RX4 yX4_stroke yX4_stroke ∈ hsAll := hs_in 562 (by decide +kernel) (by decide +kernel)
set_option maxRecDepth 100000 in
theorem w_selects_X4_strokeOf : Cond.selects RX4 yX4_strokeOf yX4_strokeOf ∈ hsAll := hs_in 21 (by decide +kernel) (by decide +kernel)
set_option maxRecDepth 100000 in
theorem w_selects_X4_isEdgeAt : Cond.selects RX4 yX4_isEdgeAt yX4_isEdgeAt ∈ hsAll := hs_in 22 (by decide +kernel) (by decide +kernel)
set_option maxRecDepth 100000 in
theorem w_selects_X4_strokes : Cond.selects RX4 yX4_strokes yX4_strokes ∈ hsAll := hs_in 574 (by decide +kernel) (by decide +kernel)
set_option maxRecDepth 100000 in
theorem w_lay_X0_0 : u_lay RX0 TX0 0 ∈ hsAll := hs_in 96 (by decide +kernel) (by decide +kernel)
set_option maxRecDepth 100000 in
theorem w_lay_X0_1 : u_lay RX0 TX0 1 ∈ hsAll := hs_in 98 (by decide +kernel) (by decide +kernel)
set_option maxRecDepth 100000 in
theorem w_lay_X0_2 : u_lay RX0 TX0 2 ∈ hsAll := hs_in 100 (by decide +kernel) (by decide +kernel)
set_option maxRecDepth 100000 in
theorem w_lay_X0_3 : u_lay RX0 TX0 3 ∈ hsAll := hs_in 102 (by decide +kernel) (by decide +kernel)
set_option maxRecDepth 100000 in
theorem w_lay_X0_4 : u_lay RX0 TX0 4 ∈ hsAll := hs_in 104 (by decide +kernel) (by decide +kernel)
theorem wu_X0 : ∀ w ∈ u_ws RX0 TX0 5, w ∈ hsAll := by
  intro w hw
  obtain ⟨k, hk, rfl⟩ := List.mem_map.mp hw
  have hk := List.mem_range.mp hk
  match k, hk with
  | 0, _ => exact w_lay_X0_0
  | 1, _ => exact w_lay_X0_1
  | 2, _ => exact w_lay_X0_2
  | 3, _ => exact w_lay_X0_3
  | 4, _ => exact w_lay_X0_4
  | n + 5, h => exact absurd h (by omega)
set_option maxRecDepth 100000 in
theorem w_lay_X1_0 : u_lay RX1 TX1 0 ∈ hsAll := hs_in 47 (by decide +kernel) (by decide +kernel)
theorem wu_X1 : ∀ w ∈ u_ws RX1 TX1 1, w ∈ hsAll := by
  intro w hw
  obtain ⟨k, hk, rfl⟩ := List.mem_map.mp hw
  have hk := List.mem_range.mp hk
  match k, hk with
  | 0, _ => exact w_lay_X1_0
  | n + 1, h => exact absurd h (by omega)
set_option maxRecDepth 100000 in
theorem w_lay_X2_0 : u_lay RX2 TX2 0 ∈ hsAll := hs_in 64 (by decide +kernel) (by decide +kernel)
set_option maxRecDepth 100000 in
theorem w_lay_X2_1 : u_lay RX2 TX2 1 ∈ hsAll := hs_in 66 (by decide +kernel) (by decide +kernel)
set_option maxRecDepth 100000 in
theorem w_lay_X2_2 : u_lay RX2 TX2 2 ∈ hsAll := hs_in 68 (by decide +kernel) (by decide +kernel)
set_option maxRecDepth 100000 in
theorem w_lay_X2_3 : u_lay RX2 TX2 3 ∈ hsAll := hs_in 70 (by decide +kernel) (by decide +kernel)
set_option maxRecDepth 100000 in
theorem w_lay_X2_4 : u_lay RX2 TX2 4 ∈ hsAll := hs_in 72 (by decide +kernel) (by decide +kernel)
theorem wu_X2 : ∀ w ∈ u_ws RX2 TX2 5, w ∈ hsAll := by
  intro w hw
  obtain ⟨k, hk, rfl⟩ := List.mem_map.mp hw
  have hk := List.mem_range.mp hk
  match k, hk with
  | 0, _ => exact w_lay_X2_0
  | 1, _ => exact w_lay_X2_1
  | 2, _ => exact w_lay_X2_2
  | 3, _ => exact w_lay_X2_3
  | 4, _ => exact w_lay_X2_4
  | n + 5, h => exact absurd h (by omega)
set_option maxRecDepth 100000 in
theorem w_lay_X3_0 : u_lay RX3 TX3 0 ∈ hsAll := hs_in 84 (by decide +kernel) (by decide +kernel)
set_option maxRecDepth 100000 in
theorem w_lay_X3_1 : u_lay RX3 TX3 1 ∈ hsAll := hs_in 86 (by decide +kernel) (by decide +kernel)
set_option maxRecDepth 100000 in
theorem w_lay_X3_2 : u_lay RX3 TX3 2 ∈ hsAll := hs_in 88 (by decide +kernel) (by decide +kernel)
theorem wu_X3 : ∀ w ∈ u_ws RX3 TX3 3, w ∈ hsAll := by
  intro w hw
  obtain ⟨k, hk, rfl⟩ := List.mem_map.mp hw
  have hk := List.mem_range.mp hk
  match k, hk with
  | 0, _ => exact w_lay_X3_0
  | 1, _ => exact w_lay_X3_1
  | 2, _ => exact w_lay_X3_2
  | n + 3, h => exact absurd h (by omega)
set_option maxRecDepth 100000 in
theorem w_lay_X4_0 : u_lay RX4 TX4 0 ∈ hsAll := hs_in 400 (by decide +kernel) (by decide +kernel)
set_option maxRecDepth 100000 in
theorem w_lay_X4_1 : u_lay RX4 TX4 1 ∈ hsAll := hs_in 402 (by decide +kernel) (by decide +kernel)
set_option maxRecDepth 100000 in
theorem w_lay_X4_2 : u_lay RX4 TX4 2 ∈ hsAll := hs_in 404 (by decide +kernel) (by decide +kernel)
set_option maxRecDepth 100000 in
theorem w_lay_X4_3 : u_lay RX4 TX4 3 ∈ hsAll := hs_in 406 (by decide +kernel) (by decide +kernel)
set_option maxRecDepth 100000 in
theorem w_lay_X4_4 : u_lay RX4 TX4 4 ∈ hsAll := hs_in 408 (by decide +kernel) (by decide +kernel)
set_option maxRecDepth 100000 in
theorem w_lay_X4_5 : u_lay RX4 TX4 5 ∈ hsAll := hs_in 410 (by decide +kernel) (by decide +kernel)
set_option maxRecDepth 100000 in
theorem w_lay_X4_6 : u_lay RX4 TX4 6 ∈ hsAll := hs_in 412 (by decide +kernel) (by decide +kernel)
set_option maxRecDepth 100000 in
theorem w_lay_X4_7 : u_lay RX4 TX4 7 ∈ hsAll := hs_in 414 (by decide +kernel) (by decide +kernel)
theorem wu_X4 : ∀ w ∈ u_ws RX4 TX4 8, w ∈ hsAll := by
  intro w hw
  obtain ⟨k, hk, rfl⟩ := List.mem_map.mp hw
  have hk := List.mem_range.mp hk
  match k, hk with
  | 0, _ => exact w_lay_X4_0
  | 1, _ => exact w_lay_X4_1
  | 2, _ => exact w_lay_X4_2
  | 3, _ => exact w_lay_X4_3
  | 4, _ => exact w_lay_X4_4
  | 5, _ => exact w_lay_X4_5
  | 6, _ => exact w_lay_X4_6
  | 7, _ => exact w_lay_X4_7
  | n + 8, h => exact absurd h (by omega)
end
section
def hx_b (b : Bool) : Int32 := if b then 1 else 0
theorem hx_b0 {b : Bool} : hx_b b = 0 ↔ b = false := by cases b <;> decide
theorem hx_bn0 {b : Bool} : ¬ hx_b b = 0 ↔ b = true := by cases b <;> decide
theorem hx_bnar (b : Bool) : narrow .boolean (.int (hx_b b)) = .int (hx_b b) := by cases b <;> rfl
def hx_s (b : Bool) (x y : Int32) : Int32 := if b = true then x else y
theorem hs_inc (k : Nat) : nI k + Int32.ofInt 1 = nI (k + 1) := nI_1 k
theorem hs_incx (x : Int32) : x + Int32.ofInt 1 = x + 1 := rfl
theorem hs_dec (k : Nat) : nI (k + 1) + Int32.ofInt (-1) = nI k := pk_m1 k
theorem hs_decx (x : Int32) : x + Int32.ofInt (-1) = x + (-1) := rfl
def hx_it {α : Type} (f : Nat → α → α) : Nat → α → α
  | 0, a => a
  | k + 1, a => f k (hx_it f k a)
theorem hx_it_s {α : Type} (f : Nat → α → α) (k : Nat) (a : α) : hx_it f (k + 1) a = f k (hx_it f k a) := rfl
theorem hs_self {ws : va_W} {q : Nat} {x : Nat × va_E} (h : ws[q]? = some x) : ws.set q x = ws := by
  obtain ⟨hl, he⟩ := List.getElem?_eq_some_iff.mp h
  subst he
  exact List.set_getElem_self hl
theorem hs_got {ws : va_W} {q : Nat} {x0 x : Nat × va_E} (h : ws[q]? = some x0) : (ws.set q x)[q]? = some x := by
  have hl := (List.getElem?_eq_some_iff.mp h).1
  rw [List.getElem?_set_self hl]
theorem hs_oth {ws : va_W} {q q2 : Nat} {x y : Nat × va_E} (hne : q ≠ q2) (h : ws[q2]? = some y) : (ws.set q x)[q2]? = some y := by
  rw [List.getElem?_set_ne hne]; exact h
def hx_in (c n : Int32) : Bool := !(decide (c < 0)) && !(decide (n ≤ c))
def hx_pl (c : Int32) : Bool := !(decide (c < 0)) && !(decide (12 < c))
def hx_str (a w : Int32) : Bool := hx_in a 12 && (!(decide (w < 1)) && !(decide (12 - a < w)))
def hx_spl (u v x : Int32) : Bool := if x = 0 then hx_pl u && hx_in v 12 else decide (x = 1) && (hx_in u 12 && hx_pl v)
theorem hx_in_nat {c : Int32} {n : Nat} (hn : n < 2 ^ 31) (h : hx_in c (nI n) = true) : ∃ j : Nat, j < n ∧ c = nI j := by
  simp only [hx_in, Bool.and_eq_true, Bool.not_eq_true', decide_eq_false_iff_not] at h
  rcases pk_ix c hn with h1 | h1 | h1
  · exact absurd h1 h.1
  · exact absurd h1 h.2
  · exact h1
theorem hx_in_lt {j n : Nat} (h : j < n) (hn : n < 2 ^ 31) : hx_in (nI j) (nI n) = true := by
  simp only [hx_in, Bool.and_eq_true, Bool.not_eq_true', decide_eq_false_iff_not]
  exact ⟨nI_pos (by omega), nI_ge h hn⟩
def hx_col (f : Nat → Int32) (x y : Int32) : Int32 := if hx_in x 12 && hx_in y 12 then f (x * 12 + y).toNatClampNeg else 0
theorem hx_col_in {x y : Int32} (hx : hx_in x 12 = true) (hy : hx_in y 12 = true) : ∃ a b : Nat, a < 12 ∧ b < 12 ∧ x = nI a ∧ y = nI b ∧ x * 12 + y = nI (a * 12 + b) := by
  obtain ⟨a, ha, rfl⟩ := hx_in_nat (n := 12) (by decide) hx
  obtain ⟨b, hb, rfl⟩ := hx_in_nat (n := 12) (by decide) hy
  refine ⟨a, b, ha, hb, rfl, rfl, ?_⟩
  show nI a * nI 12 + nI b = _
  rw [pk_mul, nI_add]
theorem hx_col_vp {x y : Int32} (hx : hx_in x 12 = true) (hy : hx_in y 12 = true) : vp_in (x * 12 + y) 144 := by
  obtain ⟨a, b, ha, hb, -, -, e⟩ := hx_col_in hx hy
  rw [e]
  exact vp_in_nI (by omega) (by decide)
theorem hx_col_n {f : Nat → Int32} {a b : Nat} (ha : a < 12) (hb : b < 12) : hx_col f (nI a) (nI b) = f (a * 12 + b) := by
  have h1 : hx_in (nI a) 12 = true := hx_in_lt (n := 12) ha (by decide)
  have h2 : hx_in (nI b) 12 = true := hx_in_lt (n := 12) hb (by decide)
  unfold hx_col
  rw [h1, h2]
  have e : nI a * 12 + nI b = nI (a * 12 + b) := by
    show nI a * nI 12 + nI b = _
    rw [pk_mul, nI_add]
  rw [e, nI_clamp (by omega)]
  rfl
theorem hx_col_x {f : Nat → Int32} {x y : Int32} (hx : hx_in x 12 = false) : hx_col f x y = 0 := by
  unfold hx_col; rw [hx]; rfl
theorem hx_col_y {f : Nat → Int32} {x y : Int32} (hy : hx_in y 12 = false) : hx_col f x y = 0 := by
  unfold hx_col; rw [hy, Bool.and_false]; rfl
def hx_al (f : Nat → Int32) (ax u v : Int32) : Int32 := if ax = 2 then hx_col f u v else if hx_in v 12 = false then 0 else hx_it (fun c b => b ||| ((((if ax = 0 then hx_col f (nI c) u else hx_col f u (nI c)) >>> (v &&& 31)) &&& 1) <<< (nI c &&& 31))) 12 0
def hx_fill (g : Nat → Nat → Int32) (F : Nat → Int32) : Nat → Int32 := hx_it (fun x F => hx_it (fun y F => upd F (x * 12 + y) (g x y)) 12 F) 12 F
def hj_u (x n : Int32) : Int32 := (x.toUInt32 >>> (n.toUInt32 &&& Int32.toUInt32 31)).toInt32
def hj_bc1 (i : Int32) : Int32 := i - (hj_u i 1 &&& 1431655765)
def hj_bc2 (i : Int32) : Int32 := (i &&& 858993459) + (hj_u i 2 &&& 858993459)
def hj_bc3 (i : Int32) : Int32 := (i + hj_u i 4) &&& 252645135
def hj_bc4 (i : Int32) : Int32 := i + hj_u i 8
def hj_bc5 (i : Int32) : Int32 := i + hj_u i 16
def hj_bc (i : Int32) : Int32 := hj_bc5 (hj_bc4 (hj_bc3 (hj_bc2 (hj_bc1 i)))) &&& 63
def hj_rb (i : Int32) : Int32 := (((i <<< ((24 : Int32) &&& 31)) ||| ((i &&& 65280) <<< ((8 : Int32) &&& 31))) ||| (hj_u i 8 &&& 65280)) ||| hj_u i 24
def hj_r1 (i : Int32) : Int32 := ((i &&& 1431655765) <<< ((1 : Int32) &&& 31)) ||| (hj_u i 1 &&& 1431655765)
def hj_r2 (i : Int32) : Int32 := ((i &&& 858993459) <<< ((2 : Int32) &&& 31)) ||| (hj_u i 2 &&& 858993459)
def hj_r3 (i : Int32) : Int32 := ((i &&& 252645135) <<< ((4 : Int32) &&& 31)) ||| (hj_u i 4 &&& 252645135)
def hj_rev (i : Int32) : Int32 := hj_rb (hj_r3 (hj_r2 (hj_r1 i)))
def hj_nl (t sh m : Int32) (P : Int32 × Int32) : Int32 × Int32 := if P.1 < t then P else (hj_u P.1 sh, P.2 + m)
def hj_nt (t sh m : Int32) (P : Int32 × Int32) : Int32 × Int32 := if P.1 ≤ t then P else (hj_u P.1 sh, P.2 + m)
def hj_nlz (i : Int32) : Int32 := if 0 < i then (hj_nl 4 2 (Int32.ofInt (-2)) (hj_nl 16 4 (Int32.ofInt (-4)) (hj_nl 256 8 (Int32.ofInt (-8)) (hj_nl 65536 16 (Int32.ofInt (-16)) (i, 31))))).2 - hj_u (hj_nl 4 2 (Int32.ofInt (-2)) (hj_nl 16 4 (Int32.ofInt (-4)) (hj_nl 256 8 (Int32.ofInt (-8)) (hj_nl 65536 16 (Int32.ofInt (-16)) (i, 31))))).1 1 else if i = 0 then 32 else 0
def hj_ntm (i : Int32) : Int32 := (i ^^^ (-1)) &&& (i - 1)
def hj_ntz (i : Int32) : Int32 := if 0 < hj_ntm i then (hj_nt 4 2 (Int32.ofInt 2) (hj_nt 16 4 (Int32.ofInt 4) (hj_nt 256 8 (Int32.ofInt 8) (hj_nt 65536 16 (Int32.ofInt 16) (hj_ntm i, 1))))).2 + hj_u (hj_nt 4 2 (Int32.ofInt 2) (hj_nt 16 4 (Int32.ofInt 4) (hj_nt 256 8 (Int32.ofInt 8) (hj_nt 65536 16 (Int32.ofInt 16) (hj_ntm i, 1))))).1 1 else hj_ntm i &&& 32
def hx_ea (a b c d : Int32) : Int32 := ((a ^^^ b) ||| (c ^^^ d)) &&& ((a ^^^ c) ||| (b ^^^ d))
def hx_eb (a c : Int32) : Int32 := hx_ea a (a <<< ((1 : Int32) &&& 31)) c (c <<< ((1 : Int32) &&& 31))
def hx_span (a b : Int32) : Int32 := ((1 : Int32) <<< ((b + 1) &&& 31)) - ((1 : Int32) <<< (a &&& 31))
def hx_jn (a b w : Int32) : Int32 := if w = 0 then a ||| b else if w = 1 then a &&& b else if w = 2 then a &&& (b ^^^ (-1)) else a ^^^ b
def hx_rev (c : Int32) : Int32 := hj_u (hj_rev c) 20
def hx_tc (f : Nat → Int32) (ax x y : Int32) : Int32 := if ax = 0 then hx_al f 1 x (11 - y) else if ax = 1 then hx_rev (hx_al f 0 y x) else hx_col f y (11 - x)
def hx_mc (f : Nat → Int32) (ax x y : Int32) : Int32 := if ax = 0 then hx_col f (11 - x) y else if ax = 1 then hx_col f x (11 - y) else hx_rev (hx_col f x y)
def hx_dep (c ab : Int32) : Int32 := if c = 0 then 12 else if ab = 0 then hj_ntz c else hj_nlz c - 20
def hx_sb (c n ab : Int32) : Int32 := if hx_dep c ab = hx_dep n ab then (if hx_eb c n = 0 then 0 else 1) else 2
def hx_cnt (f : Nat → Int32) : Int32 := hx_it (fun i n => n + hj_bc (f i)) 144 0
def hx_layer (f : Nat → Int32) (ax w : Int32) : Int32 := hx_it (fun i n => n + hj_bc (if ax = 0 then hx_col f w (nI i) else if ax = 1 then hx_col f (nI i) w else hx_al f 0 (nI i) w)) 12 0
def hx_fst (P : Nat → Bool) : Nat → Nat → Nat
  | 0, k => k
  | d + 1, k => if P k then k else hx_fst P d (k + 1)
def hx_lst (P : Nat → Bool) : Nat → Nat
  | 0 => 12
  | k + 1 => if P k then k else hx_lst P k
def hx_least (f : Nat → Int32) (ax : Int32) : Int32 := nI (hx_fst (fun w => decide (0 < hx_layer f ax (nI w))) 12 0)
def hx_great (f : Nat → Int32) (ax : Int32) : Int32 := nI (hx_lst (fun w => decide (0 < hx_layer f ax (nI w))) 12)
def hx_side1 (f : Nat → Int32) (x y n : Int32) : Int32 := n + hj_bc (hx_col f x y ^^^ hx_col f (x - 1) y) + hj_bc (hx_col f x y ^^^ hx_col f x (y - 1)) + hj_bc (hx_col f x y ^^^ (hx_col f x y <<< ((1 : Int32) &&& 31)))
def hx_sides (f : Nat → Int32) : Int32 := hx_it (fun x n => hx_it (fun y n => hx_side1 f (nI x) (nI y) n) 13 n) 13 0
def hx_edge1 (f : Nat → Int32) (x y n : Int32) : Int32 := n + hj_bc (hx_eb (hx_col f (x - 1) y) (hx_col f x y)) + hj_bc (hx_eb (hx_col f x (y - 1)) (hx_col f x y)) + hj_bc (hx_ea (hx_col f (x - 1) (y - 1)) (hx_col f x (y - 1)) (hx_col f (x - 1) y) (hx_col f x y))
def hx_edges (f : Nat → Int32) : Int32 := hx_it (fun x n => hx_it (fun y n => hx_edge1 f (nI x) (nI y) n) 13 n) 13 0
def hx_pair (f : Nat → Int32) (x y z : Int32) : Int32 := hj_bc (((hx_col f x y <<< ((1 : Int32) &&& 31)) >>> (z &&& 31)) &&& 3)
def hx_ar (f : Nat → Int32) (x y z : Int32) : Int32 := hx_pair f (x - 1) (y - 1) z + hx_pair f (x - 1) y z + hx_pair f x (y - 1) z + hx_pair f x y z
def hx_eq (f g : Nat → Int32) (n : Nat) : Bool := (List.range n).all (fun i => decide (f i = g i))
def hx_vw (f : Nat → Int32) (ax : Int32) (x y : Nat) : Int32 := hx_al f ax (nI x) (nI y)
def hx_bx (x0 y0 z0 x1 y1 z1 : Int32) (x y : Nat) : Int32 := if nI x < x0 ∨ x1 < nI x ∨ nI y < y0 ∨ y1 < nI y then 0 else hx_span z0 z1
def hx_sh (f : Nat → Int32) (dx dy dz : Int32) (x y : Nat) : Int32 := if 0 ≤ dz then hx_col f (nI x - dx) (nI y - dy) <<< (dz &&& 31) else hx_col f (nI x - dx) (nI y - dy) >>> ((-dz) &&& 31)
def hx_sw (f : Nat → Int32) (ax w a b : Int32) (x y : Nat) : Int32 := if ax = 0 then (if nI x < a ∨ b < nI x then 0 else hx_col f w (nI y)) else if ax = 1 then (if nI y < a ∨ b < nI y then 0 else hx_col f (nI x) w) else if (hx_col f (nI x) (nI y) >>> (w &&& 31)) &&& 1 = 1 then hx_span a b else 0
def hx_wl (f : Nat → Int32) (ax d : Int32) : Bool := !(decide (hx_least f ax = 12)) && (decide (d < -(hx_least f ax)) || decide (11 - hx_great f ax < d))
theorem hx_sw3 (x : Int32) : x = 0 ∨ x = 1 ∨ x = 2 ∨ ((x.toInt < 0 ∨ 2 < x.toInt) ∧ ¬ x = 0 ∧ ¬ x = 1 ∧ ¬ x = 2) := by
  by_cases h0 : x = 0
  · exact Or.inl h0
  by_cases h1 : x = 1
  · exact Or.inr (Or.inl h1)
  by_cases h2 : x = 2
  · exact Or.inr (Or.inr (Or.inl h2))
  refine Or.inr (Or.inr (Or.inr ⟨?_, h0, h1, h2⟩))
  have e0 : ¬ x.toInt = 0 := fun q => h0 (Int32.toInt_inj.mp (by rw [q]; rfl))
  have e1 : ¬ x.toInt = 1 := fun q => h1 (Int32.toInt_inj.mp (by rw [q]; rfl))
  have e2 : ¬ x.toInt = 2 := fun q => h2 (Int32.toInt_inj.mp (by rw [q]; rfl))
  omega
theorem hx_eq_t {f g : Nat → Int32} {n : Nat} (h : ∀ i, i < n → f i = g i) : hx_eq f g n = true := by
  unfold hx_eq
  rw [List.all_eq_true]
  intro i hi
  exact decide_eq_true (h i (List.mem_range.mp hi))
theorem hx_eq_f {f g : Nat → Int32} {n i : Nat} (hi : i < n) (h : ¬ f i = g i) : hx_eq f g n = false := by
  rw [Bool.eq_false_iff]
  intro q
  unfold hx_eq at q
  rw [List.all_eq_true] at q
  exact h (of_decide_eq_true (q i (List.mem_range.mpr hi)))
def hx_dn : Nat → Int32
  | 0 => -1
  | n + 1 => nI n
theorem hs_dn (n : Nat) : nI n + Int32.ofInt (-1) = hx_dn n := by
  cases n with
  | zero => decide
  | succ m => exact pk_m1 m
def hx_jf (f g : Nat → Int32) (w : Int32) (F : Nat → Int32) : Nat → Int32 := hx_it (fun i F => upd F i (hx_jn (f i) (g i) w)) 144 F
def hc_rd (F : (Nat → Int32) → Int32) (cols : Nat → Nat → Int32) (sol : Nat → Nat) (s : Int32) : Int32 := if hx_in s 6 = true then F (cols (sol s.toNatClampNeg)) else -1
theorem hc_rd_ok {F : (Nat → Int32) → Int32} {cols : Nat → Nat → Int32} {sol : Nat → Nat} {i : Nat} (hi : i < 6) : hc_rd F cols sol (nI i) = F (cols (sol i)) := by
  unfold hc_rd
  have h1 : hx_in (nI i) 6 = true := hx_in_lt (n := 6) hi (by decide)
  rw [if_pos h1, nI_clamp (by omega)]
theorem hc_rd_bad {F : (Nat → Int32) → Int32} {cols : Nat → Nat → Int32} {sol : Nat → Nat} {s : Int32} (h : hx_in s 6 = false) : hc_rd F cols sol s = -1 := by
  unfold hc_rd
  rw [h]; rfl
def hq_o (o d : Nat) : Nat := if d = 12 then (o + 1) % 12 else o
def hq_d (d : Nat) : Nat := if d = 12 then 11 else d
def hq_p (o d : Nat) : Nat := (hq_o o d + hq_d d) % 12
theorem hq_p_lt (o d : Nat) : hq_p o d < 12 := Nat.mod_lt _ (by decide)
abbrev HF : Type := (Nat → Int32) × (Nat → Int32) × Nat
def hf_take (x y b : Int32) (X : HF) : HF := if hx_in x 12 = true then (if hx_in y 12 = true then (if X.1 ((x * 12) + y).toNatClampNeg &&& b = 0 then X else if X.2.2 < 1728 then (upd X.1 ((x * 12) + y).toNatClampNeg (X.1 ((x * 12) + y).toNatClampNeg ^^^ (X.1 ((x * 12) + y).toNatClampNeg &&& b)), upd X.2.1 X.2.2 ((((x * 12) + y) <<< ((12 : Int32) &&& 31)) ||| (X.1 ((x * 12) + y).toNatClampNeg &&& b)), X.2.2 + 1) else X) else X) else X
theorem hf_take_le {x y b : Int32} {X : HF} (h : X.2.2 ≤ 1728) : (hf_take x y b X).2.2 ≤ 1728 := by
  unfold hf_take
  split
  · split
    · split
      · exact h
      · split
        · rename_i h4
          exact h4
        · exact h
    · exact h
  · exact h
def hf_one (i : Nat) (X : HF) : HF :=
  hf_take ((X.2.1 i >>> ((12 : Int32) &&& 31)) / 12) (((X.2.1 i >>> ((12 : Int32) &&& 31)) - (X.2.1 i >>> ((12 : Int32) &&& 31)) / 12 * 12) + 1) (X.2.1 i &&& 4095)
  (hf_take ((X.2.1 i >>> ((12 : Int32) &&& 31)) / 12) (((X.2.1 i >>> ((12 : Int32) &&& 31)) - (X.2.1 i >>> ((12 : Int32) &&& 31)) / 12 * 12) - 1) (X.2.1 i &&& 4095)
  (hf_take (((X.2.1 i >>> ((12 : Int32) &&& 31)) / 12) + 1) ((X.2.1 i >>> ((12 : Int32) &&& 31)) - (X.2.1 i >>> ((12 : Int32) &&& 31)) / 12 * 12) (X.2.1 i &&& 4095)
  (hf_take (((X.2.1 i >>> ((12 : Int32) &&& 31)) / 12) - 1) ((X.2.1 i >>> ((12 : Int32) &&& 31)) - (X.2.1 i >>> ((12 : Int32) &&& 31)) / 12 * 12) (X.2.1 i &&& 4095)
  (hf_take ((X.2.1 i >>> ((12 : Int32) &&& 31)) / 12) ((X.2.1 i >>> ((12 : Int32) &&& 31)) - (X.2.1 i >>> ((12 : Int32) &&& 31)) / 12 * 12) (((X.2.1 i &&& 4095) <<< ((1 : Int32) &&& 31)) ||| ((X.2.1 i &&& 4095) >>> ((1 : Int32) &&& 31))) X))))
theorem hf_one_le {i : Nat} {X : HF} (h : X.2.2 ≤ 1728) : (hf_one i X).2.2 ≤ 1728 := hf_take_le (hf_take_le (hf_take_le (hf_take_le (hf_take_le h))))
def hf_sp : Nat → Nat → HF → HF
  | 0, _, X => X
  | d + 1, i, X => if i < X.2.2 then hf_sp d (i + 1) (hf_one i X) else X
theorem hf_sp_le : ∀ (d i : Nat) (X : HF), X.2.2 ≤ 1728 → (hf_sp d i X).2.2 ≤ 1728 := by
  intro d
  induction d with
  | zero => intro i X h; exact h
  | succ d ih =>
    intro i X h
    unfold hf_sp
    split
    · exact ih _ _ (hf_one_le h)
    · exact h
def hf_cf (x0 y0 : Int32) (X : HF) : HF × Int32 := hx_it (fun z (Z : HF × Int32) => if 0 < (hf_take x0 y0 ((1 : Int32) <<< (nI z &&& 31)) (Z.1.1, Z.1.2.1, 0)).2.2 then (hf_sp 1728 0 (hf_take x0 y0 ((1 : Int32) <<< (nI z &&& 31)) (Z.1.1, Z.1.2.1, 0)), Z.2 + 1) else (hf_take x0 y0 ((1 : Int32) <<< (nI z &&& 31)) (Z.1.1, Z.1.2.1, 0), Z.2)) 12 (X, 0)
def hf_cl (X : HF) : HF × Int32 := hx_it (fun x (Z : HF × Int32) => hx_it (fun y (Z : HF × Int32) => ((hf_cf (nI x) (nI y) Z.1).1, Z.2 + (hf_cf (nI x) (nI y) Z.1).2)) 12 Z) 12 (X, 0)
theorem hx_it_inv {α : Type} {P : α → Prop} {f : Nat → α → α} {a : α} {n : Nat} (hs : ∀ k b, P b → P (f k b)) (h0 : P a) : P (hx_it f n a) := by
  induction n with
  | zero => exact h0
  | succ n ih => exact hs n _ ih
def hf_bm (x y : Nat) : Int32 := if nI x = 0 ∨ nI x = 11 ∨ nI y = 0 ∨ nI y = 11 then 4095 else 2049
def hf_db (X : HF) : HF := hf_sp 1728 0 (hx_it (fun x F => hx_it (fun y F => hf_take (nI x) (nI y) (hf_bm x y) F) 12 F) 12 (X.1, X.2.1, 0))
theorem hf_db_le (X : HF) : (hf_db X).2.2 ≤ 1728 := hf_sp_le _ _ _ (hx_it_inv (P := fun F : HF => F.2.2 ≤ 1728) (fun _ _ h1 => hx_it_inv (P := fun F : HF => F.2.2 ≤ 1728) (fun _ _ h2 => hf_take_le h2) h1) (Nat.zero_le _))
def hf_pc (f : Nat → Int32) (X : HF) : HF × Int32 := hf_cl (hx_it (fun i F => upd F i (f i)) 144 X.1, X.2.1, X.2.2)
def hf_hl (f : Nat → Int32) (X : HF) : HF × Int32 := hf_cl (hf_db (hx_it (fun i F => upd F i (4095 &&& (f i ^^^ (-1)))) 144 X.1, X.2.1, X.2.2))
def hc_if (b : Bool) (w v : Int32) : Int32 := if b = true then v else w
def hc_mom (f : Nat → Int32) (ax : Int32) : Int32 := hx_it (fun k n => n + (nI (2 * k + 1)) * hx_layer f ax (nI k)) 12 0
def hc_sk1 (V : Nat → Int32) (ab kd u v n : Int32) : Int32 := if hx_sb (hx_col V u (v - 1)) (hx_col V u v) ab = kd then (if hx_sb (hx_col V (u - 1) v) (hx_col V u v) ab = kd then n + 1 else n) + 1 else (if hx_sb (hx_col V (u - 1) v) (hx_col V u v) ab = kd then n + 1 else n)
def hc_sk (V : Nat → Int32) (ab kd : Int32) : Int32 := hx_it (fun u n => hx_it (fun v n => hc_sk1 V ab kd (nI u) (nI v) n) 13 n) 13 0
theorem hs_up_same {α : Type} (f : Nat → α) (k : Nat) : va_up f k (f k) = f := by
  funext j
  unfold va_up
  split
  · rename_i h; rw [h]
  · rfl
theorem hs_upo {g : Nat → Nat} {oth : Nat → Nat} {p b : Nat} : va_up (fun i => some (g (13 + oth i))) p (some (g (13 + b))) = fun i => some (g (13 + va_up oth p b i)) := by
  funext i
  simp only [va_up]
  split <;> rfl
def hy_shd (c w : Int32) : Int32 := if -12 < w ∧ w < 12 ∧ hx_in (c + w) 12 = true then c + w else -1
def hy_ix (s : Nat) (x y : Int32) : Int32 := nI (144 * s) + (12 * x) + y
theorem hy_ixn {s a b : Nat} : hy_ix s (nI a) (nI b) = nI (144 * s + 12 * a + b) := by
  show nI (144 * s) + (nI 12 * nI a) + nI b = _
  rw [pk_mul, nI_add, nI_add]
theorem hy_ixv {s : Nat} {x y : Int32} (hs : s < 6) (hx : hx_in x 12 = true) (hy : hx_in y 12 = true) : vp_in (hy_ix s x y) 4464 := by
  obtain ⟨a, ha, rfl⟩ := hx_in_nat (n := 12) (by decide) hx
  obtain ⟨b, hb, rfl⟩ := hx_in_nat (n := 12) (by decide) hy
  rw [hy_ixn]
  exact vp_in_nI (by omega) (by decide)
def hy_has (bi : Nat → Int32) (s : Nat) (x y z : Int32) : Bool := hx_in x 12 && (hx_in y 12 && (hx_in z 12 && decide ((bi (hy_ix s x y).toNatClampNeg >>> (z &&& 31)) &&& 1 = 1)))
def hy_hb (bi : Nat → Int32) (s : Nat) (ax o u v : Int32) : Bool := if ax = 0 then hy_has bi s o u v else if ax = 1 then hy_has bi s u o v else hy_has bi s u v o
def hy_clr (bi : Nat → Int32) : Nat → Int32 := hx_it (fun k b => upd b (864 + k) 0) 144 bi
def hy_put (bi : Nat → Int32) (x y : Nat) (z : Int32) : Nat → Int32 := upd bi (864 + 12 * x + y) (bi (864 + 12 * x + y) ||| ((1 : Int32) <<< (z &&& 31)))
def hy_cpy (bi : Nat → Int32) (a b : Nat) : Nat → Int32 := hx_it (fun k c => upd c (b + k) (c (a + k))) 144 bi
def hy_cnt (bi : Nat → Int32) (s : Nat) : Int32 := hx_it (fun k n => n + ((bi (144 * s + k / 12) >>> (nI (k % 12) &&& 31)) &&& 1)) 1728 0
def hy_ed (bi : Nat → Int32) (s : Nat) (ax o u v : Int32) : Bool :=
  decide (hx_s (hy_hb bi s ax o (u - 1) (v - 1)) 1 0 + hx_s (hy_hb bi s ax o u (v - 1)) 1 0 + hx_s (hy_hb bi s ax o (u - 1) v) 1 0 + hx_s (hy_hb bi s ax o u v) 1 0 = 1) || (decide (hx_s (hy_hb bi s ax o (u - 1) (v - 1)) 1 0 + hx_s (hy_hb bi s ax o u (v - 1)) 1 0 + hx_s (hy_hb bi s ax o (u - 1) v) 1 0 + hx_s (hy_hb bi s ax o u v) 1 0 = 3) || (decide (hx_s (hy_hb bi s ax o (u - 1) (v - 1)) 1 0 + hx_s (hy_hb bi s ax o u (v - 1)) 1 0 + hx_s (hy_hb bi s ax o (u - 1) v) 1 0 + hx_s (hy_hb bi s ax o u v) 1 0 = 2) && decide (hx_b (hy_hb bi s ax o (u - 1) (v - 1)) = hx_b (hy_hb bi s ax o u v))))
def hy_at (bi : Nat → Int32) (s : Nat) (ax w : Int32) : Int32 := hx_it (fun k n => n + hx_s (hy_hb bi s ax w (nI (k / 12)) (nI (k % 12))) 1 0) 144 0
def hy_dep (bi : Nat → Int32) (s : Nat) (ax b u v : Int32) : Int32 := nI (hx_fst (fun n => hy_hb bi s ax (if b = 0 then nI n else 11 - nI n) u v) 12 0)
def hy_ea (bi : Nat → Int32) (s : Nat) (ax u v x w : Int32) : Bool := if ax = 0 then (if x = 0 then hy_ed bi s 2 v w u else hy_ed bi s 1 u w v) else if ax = 1 then (if x = 0 then hy_ed bi s 2 v u w else hy_ed bi s 0 u w v) else (if x = 0 then hy_ed bi s 1 v u w else hy_ed bi s 0 u v w)
def hy_st (bi : Nat → Int32) (s : Nat) (ax b u v x : Int32) : Int32 := if (if x = 0 then hy_dep bi s ax b (u - 1) v else hy_dep bi s ax b u (v - 1)) = hy_dep bi s ax b u v then hx_it (fun k n => if hy_ea bi s ax u v x (nI k) = true then 1 else n) 13 0 else 2
def hy_sd1 (bi : Nat → Int32) (s k : Nat) (n : Int32) : Int32 :=
  if hy_has bi s (nI (k / 144)) (nI (k / 12 % 12)) (nI (k % 12)) = true then
    (n + ((hx_s (hy_has bi s (nI (k / 144) - 1) (nI (k / 12 % 12)) (nI (k % 12))) 0 1 + hx_s (hy_has bi s (nI (k / 144 + 1)) (nI (k / 12 % 12)) (nI (k % 12))) 0 1) + hx_s (hy_has bi s (nI (k / 144)) (nI (k / 12 % 12) - 1) (nI (k % 12))) 0 1))
      + ((hx_s (hy_has bi s (nI (k / 144)) (nI (k / 12 % 12 + 1)) (nI (k % 12))) 0 1 + hx_s (hy_has bi s (nI (k / 144)) (nI (k / 12 % 12)) (nI (k % 12) - 1)) 0 1) + hx_s (hy_has bi s (nI (k / 144)) (nI (k / 12 % 12)) (nI (k % 12 + 1))) 0 1)
  else n
def hy_sd (bi : Nat → Int32) (s : Nat) : Int32 := hx_it (fun k n => hy_sd1 bi s k n) 1728 0
def hy_eg (bi : Nat → Int32) (s : Nat) : Int32 := hx_it (fun ax n => hx_it (fun o n => hx_it (fun u n => hx_it (fun v n => n + hx_s (hy_ed bi s (nI ax) (nI o) (nI u) (nI v)) 1 0) 13 n) 13 n) 12 n) 3 0
def hy_mom (bi : Nat → Int32) (s : Nat) (ax : Int32) : Int32 := hx_it (fun k n => n + (nI (2 * k + 1)) * hy_at bi s ax (nI k)) 12 0
def hy_ex1 (n k : Int32) (Z : Int32 × Int32) : Int32 × Int32 := if n ≤ 0 then Z else (if Z.1 = 12 then k else Z.1, k)
def hy_ex (bi : Nat → Int32) (s : Nat) (ax : Int32) : Int32 × Int32 := hx_it (fun k (Z : Int32 × Int32) => hy_ex1 (hy_at bi s ax (nI k)) (nI k) Z) 12 (12, 12)
def hy_sp (u v x : Int32) : Bool := if x = 0 then hx_in u 13 && hx_in v 12 else decide (x = 1) && (hx_in u 12 && hx_in v 13)
def hy_sk1 (bi : Nat → Int32) (s : Nat) (ax b w : Int32) (u v : Nat) (n : Int32) : Int32 := (n + (if hy_st bi s ax b (nI u) (nI v) 0 = w then 1 else 0)) + (if hy_st bi s ax b (nI v) (nI u) 1 = w then 1 else 0)
def hy_sk (bi : Nat → Int32) (s : Nat) (ax b w : Int32) : Int32 := hx_it (fun u n => hx_it (fun v n => hy_sk1 bi s ax b w u v n) 12 n) 13 0
def hy_stp (bi wh : Nat → Int32) (d s : Nat) : (Nat → Int32) × (Nat → Int32) :=
  (hy_cpy (hy_cpy (hy_cpy (if d = 12 then hx_it (fun k (Z : (Nat → Int32) × (Nat → Int32)) => (hy_cpy (hy_cpy Z.1 (1008 + (144 * (k + 1))) (1008 + (144 * k))) (2736 + (144 * (k + 1))) (2736 + (144 * k)), upd Z.2 k (Z.2 (k + 1)))) 11 (bi, wh) else (bi, wh)).1 (144 * s) (1008 + (144 * hq_d d))) 864 (2736 + (144 * hq_d d))) 864 (144 * s),
   upd (if d = 12 then hx_it (fun k (Z : (Nat → Int32) × (Nat → Int32)) => (hy_cpy (hy_cpy Z.1 (1008 + (144 * (k + 1))) (1008 + (144 * k))) (2736 + (144 * (k + 1))) (2736 + (144 * k)), upd Z.2 k (Z.2 (k + 1)))) 11 (bi, wh) else (bi, wh)).2 (hq_d d) (nI s))
def hy_jc (p q : Bool) (w : Int32) : Bool := if w = 0 then p || q else if w = 1 then p && q else if w = 2 then p && !q else p ^^ q
def hy_tc (b : Nat → Int32) (s : Nat) (ax : Int32) (k : Nat) : Bool := if ax = 0 then hy_has b s (nI (k / 144)) (nI (k % 12)) (11 - nI ((k / 12) % 12)) else if ax = 1 then hy_has b s (11 - nI (k % 12)) (nI ((k / 12) % 12)) (nI (k / 144)) else hy_has b s (nI ((k / 12) % 12)) (11 - nI (k / 144)) (nI (k % 12))
def hy_mc (b : Nat → Int32) (s : Nat) (ax : Int32) (k : Nat) : Bool := hy_has b s (if ax = 0 then 11 - nI (k / 144) else nI (k / 144)) (if ax = 1 then 11 - nI ((k / 12) % 12) else nI ((k / 12) % 12)) (if ax = 2 then 11 - nI (k % 12) else nI (k % 12))
theorem hs_m1p (a : Nat) : (nI a - 1) + Int32.ofInt 1 = nI a := by
  show (nI a - 1) + 1 = nI a
  exact Int32.sub_add_cancel _ _
theorem hs_m1n {a : Nat} (h : a < 2 ^ 30) : ¬ nI a < nI a - 1 := by
  rw [Int32.lt_iff_toInt_lt]
  show ¬ (nI a).toInt < (nI a - nI 1).toInt
  rw [nI_toInt (by omega), pk_sub_toInt h (by decide)]
  omega
def hy_same (bi : Nat → Int32) (s t : Nat) : Bool := hx_it (fun k b => b && decide (bi (144 * s + k) = bi (144 * t + k))) 144 true
def hy_ins (bi : Nat → Int32) (s : Nat) (x y z : Int32) : Int32 := (((((((0 + hx_s (hy_has bi s (x - 1) (y - 1) (z - 1)) 1 0) + hx_s (hy_has bi s (x - 1) (y - 1) z) 1 0) + hx_s (hy_has bi s (x - 1) y (z - 1)) 1 0) + hx_s (hy_has bi s (x - 1) y z) 1 0) + hx_s (hy_has bi s x (y - 1) (z - 1)) 1 0) + hx_s (hy_has bi s x (y - 1) z) 1 0) + hx_s (hy_has bi s x y (z - 1)) 1 0) + hx_s (hy_has bi s x y z) 1 0
theorem hx_pos_nat {w : Int32} (h1 : ¬ w ≤ 0) (h2 : ¬ 12 < w) : ∃ n : Nat, 0 < n ∧ n ≤ 12 ∧ w = nI n := by
  have h0 : ¬ w < 0 := fun q => h1 (Int32.le_of_lt q)
  obtain ⟨j, hj, rfl⟩ := nI_of2 (M := 12) (n := 12) (by decide) h0 (Int32.not_lt.mp h2)
  refine ⟨j, ?_, hj, rfl⟩
  rcases Nat.eq_zero_or_pos j with h | h
  · subst h; exact absurd (by decide) h1
  · exact h
def hy_swp (ax : Int32) (b : Nat → Int32) (u v c : Nat) : Nat → Int32 := if ax = 0 then (if ax = 1 then (if ax = 2 then hy_put (hy_put (hy_put b c u (nI v)) u c (nI v)) u v (nI c) else hy_put (hy_put b c u (nI v)) u c (nI v)) else (if ax = 2 then hy_put (hy_put b c u (nI v)) u v (nI c) else hy_put b c u (nI v))) else (if ax = 1 then (if ax = 2 then hy_put (hy_put b u c (nI v)) u v (nI c) else hy_put b u c (nI v)) else (if ax = 2 then hy_put b u v (nI c) else b))
def hy_swl (s : Nat) (ax w : Int32) (u v : Nat) : Nat → Nat → (Nat → Int32) → (Nat → Int32)
  | 0, _, b => b
  | d + 1, c, b => if hy_hb b s ax w (nI u) (nI v) = true then hy_swl s ax w u v d (c + 1) (hy_swp ax b u v c) else b
def hy_shf (bi : Nat → Int32) (s : Nat) (dx dy dz : Int32) (n : Nat) : Nat → Int32 := hx_it (fun k b => if hy_has b s (nI (k / 144)) (nI ((k / 12) % 12)) (nI (k % 12)) = true then hy_put b (hy_shd (nI (k / 144)) dx).toNatClampNeg (hy_shd (nI ((k / 12) % 12)) dy).toNatClampNeg (hy_shd (nI (k % 12)) dz) else b) n (hy_clr bi)
theorem hy_shf_s (bi : Nat → Int32) (s : Nat) (dx dy dz : Int32) (k : Nat) : hy_shf bi s dx dy dz (k + 1) = if hy_has (hy_shf bi s dx dy dz k) s (nI (k / 144)) (nI ((k / 12) % 12)) (nI (k % 12)) = true then hy_put (hy_shf bi s dx dy dz k) (hy_shd (nI (k / 144)) dx).toNatClampNeg (hy_shd (nI ((k / 12) % 12)) dy).toNatClampNeg (hy_shd (nI (k % 12)) dz) else hy_shf bi s dx dy dz k := rfl
def hy_sbad (bi : Nat → Int32) (s : Nat) (dx dy dz : Int32) (k : Nat) : Bool := hy_has (hy_shf bi s dx dy dz k) s (nI (k / 144)) (nI ((k / 12) % 12)) (nI (k % 12)) && (decide (hy_shd (nI (k / 144)) dx < 0) || (decide (hy_shd (nI ((k / 12) % 12)) dy < 0) || decide (hy_shd (nI (k % 12)) dz < 0)))
theorem hy_shd_nat {c w : Int32} (h : ¬ hy_shd c w < 0) : ∃ j : Nat, j < 12 ∧ hy_shd c w = nI j := by
  unfold hy_shd at h ⊢
  split
  · rename_i h1
    exact hx_in_nat (n := 12) (by decide) h1.2.2
  · rename_i h1
    rw [if_neg h1] at h
    exact absurd (by decide) h
theorem hy_sev {x y : Int32} (hx : hx_in x 12 = true) (hy : hx_in y 12 = true) : vp_in ((12 * x) + y) 144 := by
  obtain ⟨a, ha, rfl⟩ := hx_in_nat (n := 12) (by decide) hx
  obtain ⟨b, hb, rfl⟩ := hx_in_nat (n := 12) (by decide) hy
  have e : 12 * nI a + nI b = nI (12 * a + b) := by
    show nI 12 * nI a + nI b = _
    rw [pk_mul, nI_add]
  rw [e]
  exact vp_in_nI (by omega) (by decide)
def hm_new (bi : Nat → Int32) (s : Nat) (w : Int32) (Y : HF) (x y z : Int32) : Bool := hx_in x 12 && (hx_in y 12 && (hx_in z 12 && (decide (hx_b (hy_has bi s x y z) = w) && !(decide ((Y.1 ((12 * x) + y).toNatClampNeg >>> (z &&& 31)) &&& 1 = 1)))))
def hm_see (bi : Nat → Int32) (s : Nat) (w : Int32) (x y z : Int32) (Y : HF) : HF := if hm_new bi s w Y x y z = true then (upd Y.1 ((12 * x) + y).toNatClampNeg (Y.1 ((12 * x) + y).toNatClampNeg ||| ((1 : Int32) <<< (z &&& 31))), upd Y.2.1 Y.2.2 (((144 * x) + (12 * y)) + z), Y.2.2 + 1) else Y
theorem hm_see_yes {bi : Nat → Int32} {s : Nat} {w : Int32} {x y z : Int32} {Y : HF} (h : hm_new bi s w Y x y z = true) : hm_see bi s w x y z Y = (upd Y.1 ((12 * x) + y).toNatClampNeg (Y.1 ((12 * x) + y).toNatClampNeg ||| ((1 : Int32) <<< (z &&& 31))), upd Y.2.1 Y.2.2 (((144 * x) + (12 * y)) + z), Y.2.2 + 1) := if_pos h
theorem hm_see_no {bi : Nat → Int32} {s : Nat} {w : Int32} {x y z : Int32} {Y : HF} (h : hm_new bi s w Y x y z = false) : hm_see bi s w x y z Y = Y := by
  unfold hm_see; rw [h]; rfl
theorem hx_bfit (b : Bool) : fits .boolean (.int (hx_b b)) = true := by cases b <;> rfl
def hm_bd (e : Int32) (b : Bool) : Bool := b || ((decide (e / 144 = 0) || decide (e / 144 = 11)) || ((decide (e / 12 - e / 12 / 12 * 12 = 0) || decide (e / 12 - e / 12 / 12 * 12 = 11)) || (decide (e - e / 12 * 12 = 0) || decide (e - e / 12 * 12 = 11))))
def hm_one (bi : Nat → Int32) (s : Nat) (w : Int32) (Y : HF) : HF :=
  hm_see bi s w (Y.2.1 Y.2.2 / 144) (Y.2.1 Y.2.2 / 12 - Y.2.1 Y.2.2 / 12 / 12 * 12) ((Y.2.1 Y.2.2 - Y.2.1 Y.2.2 / 12 * 12) + 1)
  (hm_see bi s w (Y.2.1 Y.2.2 / 144) (Y.2.1 Y.2.2 / 12 - Y.2.1 Y.2.2 / 12 / 12 * 12) ((Y.2.1 Y.2.2 - Y.2.1 Y.2.2 / 12 * 12) - 1)
  (hm_see bi s w (Y.2.1 Y.2.2 / 144) ((Y.2.1 Y.2.2 / 12 - Y.2.1 Y.2.2 / 12 / 12 * 12) + 1) (Y.2.1 Y.2.2 - Y.2.1 Y.2.2 / 12 * 12)
  (hm_see bi s w (Y.2.1 Y.2.2 / 144) ((Y.2.1 Y.2.2 / 12 - Y.2.1 Y.2.2 / 12 / 12 * 12) - 1) (Y.2.1 Y.2.2 - Y.2.1 Y.2.2 / 12 * 12)
  (hm_see bi s w ((Y.2.1 Y.2.2 / 144) + 1) (Y.2.1 Y.2.2 / 12 - Y.2.1 Y.2.2 / 12 / 12 * 12) (Y.2.1 Y.2.2 - Y.2.1 Y.2.2 / 12 * 12)
  (hm_see bi s w ((Y.2.1 Y.2.2 / 144) - 1) (Y.2.1 Y.2.2 / 12 - Y.2.1 Y.2.2 / 12 / 12 * 12) (Y.2.1 Y.2.2 - Y.2.1 Y.2.2 / 12 * 12) Y)))))
def hm_spr (bi : Nat → Int32) (s : Nat) (w : Int32) : Nat → HF × Bool → HF × Bool
  | 0, Z => Z
  | N + 1, Z => if Z.1.2.2 = 0 then Z else hm_spr bi s w N (hm_one bi s w (Z.1.1, Z.1.2.1, Z.1.2.2 - 1), hm_bd (Z.1.2.1 (Z.1.2.2 - 1)) Z.2)
theorem hm_spr_0 {bi : Nat → Int32} {s : Nat} {w : Int32} {N : Nat} {S P : Nat → Int32} {b : Bool} : hm_spr bi s w (N + 1) ((S, P, 0), b) = ((S, P, 0), b) := rfl
theorem hm_spr_s {bi : Nat → Int32} {s : Nat} {w : Int32} {N n : Nat} {S P : Nat → Int32} {b : Bool} : hm_spr bi s w (N + 1) ((S, P, n + 1), b) = hm_spr bi s w N (hm_one bi s w (S, P, n), hm_bd (P n) b) := rfl
def hm_set1 (bi : Nat → Int32) (s : Nat) (w : Int32) (k : Nat) (Z : (HF × Bool) × Int32) : (HF × Bool) × Int32 :=
  if 0 < (hm_see bi s w (nI (k / 144)) (nI ((k / 12) % 12)) (nI (k % 12)) (Z.1.1.1, Z.1.1.2.1, 0)).2.2 then
    (hm_spr bi s w 5185 (hm_see bi s w (nI (k / 144)) (nI ((k / 12) % 12)) (nI (k % 12)) (Z.1.1.1, Z.1.1.2.1, 0), false), Z.2 + (if w = 0 ∧ (hm_spr bi s w 5185 (hm_see bi s w (nI (k / 144)) (nI ((k / 12) % 12)) (nI (k % 12)) (Z.1.1.1, Z.1.1.2.1, 0), false)).2 = true then 0 else 1))
  else ((hm_see bi s w (nI (k / 144)) (nI ((k / 12) % 12)) (nI (k % 12)) (Z.1.1.1, Z.1.1.2.1, 0), Z.1.2), Z.2)
def hm_sets (bi : Nat → Int32) (s : Nat) (w : Int32) (Y : HF) (b : Bool) : (HF × Bool) × Int32 := hx_it (hm_set1 bi s w) 1728 (((hx_it (fun k F => upd F k 0) 144 Y.1, Y.2.1, Y.2.2), b), 0)
def bt (x : Int32) (i : Nat) : Bool := x.toBitVec.getLsbD i
theorem b_ext {x y : Int32} (h : ∀ i, i < 32 → bt x i = bt y i) : x = y := Int32.toBitVec_inj.mp (BitVec.eq_of_getLsbD_eq (fun i hi => h i hi))
theorem b_or (x y : Int32) (i : Nat) : bt (x ||| y) i = (bt x i || bt y i) := by unfold bt; rw [Int32.toBitVec_or, BitVec.getLsbD_or]
theorem b_and (x y : Int32) (i : Nat) : bt (x &&& y) i = (bt x i && bt y i) := by unfold bt; rw [Int32.toBitVec_and, BitVec.getLsbD_and]
theorem b_xor (x y : Int32) (i : Nat) : bt (x ^^^ y) i = (bt x i ^^ bt y i) := by unfold bt; rw [Int32.toBitVec_xor, BitVec.getLsbD_xor]
theorem b_big {x : Int32} {i : Nat} (h : 32 ≤ i) : bt x i = false := BitVec.getLsbD_of_ge _ _ h
theorem b_255 (i : Nat) : bt 255 i = decide (i < 8) := by
  rcases Nat.lt_or_ge i 32 with h | h
  · exact (by decide +kernel : ∀ i, i < 32 → bt 255 i = decide (i < 8)) i h
  · rw [b_big h, decide_eq_false (by omega)]
theorem b_65535 (i : Nat) : bt 65535 i = decide (i < 16) := by
  rcases Nat.lt_or_ge i 32 with h | h
  · exact (by decide +kernel : ∀ i, i < 32 → bt 65535 i = decide (i < 16)) i h
  · rw [b_big h, decide_eq_false (by omega)]
theorem b_m1 : ∀ i, i < 32 → bt (-1) i = true := by decide +kernel
theorem b_0 (i : Nat) : bt 0 i = false := BitVec.getLsbD_zero
theorem s_l : ∀ n, n < 32 → ((nI n &&& 31).toBitVec.smod 32).toNat = n := by decide +kernel
theorem s_u : ∀ n, n < 32 → (((nI n).toUInt32 &&& Int32.toUInt32 31).toBitVec % 32).toNat = n := by decide +kernel
theorem b_shl (n : Nat) (hn : n < 32) (x : Int32) {i : Nat} (hi : i < 32) : bt (x <<< (nI n &&& 31)) i = (decide (n ≤ i) && bt x (i - n)) := by
  unfold bt
  rw [Int32.toBitVec_shiftLeft]
  show (x.toBitVec <<< ((nI n &&& 31).toBitVec.smod 32).toNat).getLsbD i = _
  rw [s_l n hn, BitVec.getLsbD_shiftLeft]
  rcases Nat.lt_or_ge i n with h | h
  · simp [h, Nat.not_le.mpr h]
  · simp [hi, h, Nat.not_lt.mpr h]
theorem b_ushr (n : Nat) (hn : n < 32) (x : Int32) (i : Nat) : bt ((x.toUInt32 >>> ((nI n).toUInt32 &&& Int32.toUInt32 31)).toInt32) i = bt x (n + i) := by
  show (x.toUInt32 >>> ((nI n).toUInt32 &&& Int32.toUInt32 31)).toBitVec.getLsbD i = x.toUInt32.toBitVec.getLsbD (n + i)
  rw [UInt32.toBitVec_shiftRight]
  show (x.toUInt32.toBitVec >>> (((nI n).toUInt32 &&& Int32.toUInt32 31).toBitVec % 32).toNat).getLsbD i = _
  rw [s_u n hn, BitVec.getLsbD_ushiftRight]
theorem b_sshr (n : Nat) (hn : n < 32) (x : Int32) {i : Nat} (hi : i < 32) : bt (x >>> (nI n &&& 31)) i = if n + i < 32 then bt x (n + i) else bt x 31 := by
  unfold bt
  rw [Int32.toBitVec_shiftRight]
  show (x.toBitVec.sshiftRight ((nI n &&& 31).toBitVec.smod 32).toNat).getLsbD i = _
  rw [s_l n hn, BitVec.getLsbD_sshiftRight, BitVec.msb_eq_getLsbD_last]
  simp [hi]
theorem hb_1 {i : Nat} (hi : i < 32) : bt 1 i = decide (i = 0) := (by decide +kernel : ∀ i, i < 32 → bt 1 i = decide (i = 0)) i hi
theorem hb_4095 {i : Nat} (hi : i < 32) : bt 4095 i = decide (i < 12) := (by decide +kernel : ∀ i, i < 32 → bt 4095 i = decide (i < 12)) i hi
theorem hb_b0 (b : Bool) : bt (hx_b b) 0 = b := by cases b <;> decide
theorem hb_bs (b : Bool) {i : Nat} (hi : i < 32) (h0 : ¬ i = 0) : bt (hx_b b) i = false := by
  cases b
  · exact b_0 i
  · show bt 1 i = false
    rw [hb_1 hi, decide_eq_false h0]
theorem hb_sel (x : Int32) {z : Nat} (hz : z < 32) : (x >>> (nI z &&& 31)) &&& 1 = hx_b (bt x z) := by
  apply b_ext
  intro i hi
  rw [b_and, b_sshr z hz x hi, hb_1 hi]
  by_cases h0 : i = 0
  · subst h0
    rw [Nat.add_zero, if_pos hz, hb_b0, decide_eq_true rfl, Bool.and_true]
  · rw [decide_eq_false h0, Bool.and_false, hb_bs _ hi h0]
theorem hb_test (x : Int32) {z : Nat} (hz : z < 32) : ((x >>> (nI z &&& 31)) &&& 1 = 1) ↔ bt x z = true := by
  rw [hb_sel x hz]
  cases bt x z <;> decide
theorem hb_pow {c i : Nat} (hc : c < 32) (hi : i < 32) : bt ((1 : Int32) <<< (nI c &&& 31)) i = decide (i = c) := by
  rw [b_shl c hc 1 hi, hb_1 (by omega)]
  rcases Nat.lt_trichotomy i c with h | h | h
  · rw [decide_eq_false (show ¬ c ≤ i by omega), decide_eq_false (show ¬ i = c by omega), Bool.false_and]
  · subst h; simp
  · rw [decide_eq_false (show ¬ i - c = 0 by omega), decide_eq_false (show ¬ i = c by omega), Bool.and_false]
def hn_sum (f : Nat → Nat) : Nat → Nat
  | 0 => 0
  | n + 1 => hn_sum f n + f n
theorem hn_sum_congr {f g : Nat → Nat} : ∀ {n : Nat}, (∀ i, i < n → f i = g i) → hn_sum f n = hn_sum g n := by
  intro n
  induction n with
  | zero => intro _; rfl
  | succ n ih =>
    intro h
    show hn_sum f n + f n = hn_sum g n + g n
    rw [ih (fun i hi => h i (by omega)), h n (by omega)]
theorem hn_sum_le {f : Nat → Nat} {c : Nat} (h : ∀ i, f i ≤ c) : ∀ n : Nat, hn_sum f n ≤ c * n := by
  intro n
  induction n with
  | zero => exact Nat.zero_le _
  | succ n ih =>
    show hn_sum f n + f n ≤ c * (n + 1)
    have := h n
    rw [Nat.mul_succ]
    omega
theorem hn_sum_one {f g : Nat → Nat} {j : Nat} : ∀ {n : Nat}, j < n → (∀ i, i ≠ j → g i = f i) → g j + 1 = f j → hn_sum g n + 1 = hn_sum f n := by
  intro n
  induction n with
  | zero => intro h; omega
  | succ n ih =>
    intro h h1 h2
    show hn_sum g n + g n + 1 = hn_sum f n + f n
    by_cases hj : j = n
    · subst hj
      have e : hn_sum g j = hn_sum f j := hn_sum_congr (fun i hi => h1 i (by omega))
      omega
    · have := ih (by omega) h1 h2
      have e := h1 n (fun q => hj q.symm)
      omega
def hm_cu (x : Int32) : Nat := hn_sum (fun z => if bt x z = true then 0 else 1) 12
def hm_un (S : Nat → Int32) : Nat := hn_sum (fun i => hm_cu (S i)) 144
def hm_ok (Y : HF) : Prop := Y.2.2 + hm_un Y.1 ≤ 1728
def hm_mu (Y : HF) : Nat := 2 * hm_un Y.1 + Y.2.2
theorem hm_cu_le (x : Int32) : hm_cu x ≤ 12 := by
  have := hn_sum_le (f := fun z => if bt x z = true then 0 else 1) (c := 1) (fun i => by split <;> omega) 12
  unfold hm_cu
  omega
theorem hm_ok0 {S P : Nat → Int32} : hm_ok (S, P, 0) := by
  have := hn_sum_le (f := fun i => hm_cu (S i)) (c := 12) (fun i => hm_cu_le _) 144
  unfold hm_ok hm_un
  simp only
  omega
theorem hm_cu_set {x : Int32} {c : Nat} (hc : c < 12) (h : bt x c = false) : hm_cu (x ||| ((1 : Int32) <<< (nI c &&& 31))) + 1 = hm_cu x := by
  have key : hn_sum (fun z => if z < 12 then (if bt (x ||| ((1 : Int32) <<< (nI c &&& 31))) z = true then 0 else 1) else 0) 12 + 1 = hn_sum (fun z => if z < 12 then (if bt x z = true then 0 else 1) else 0) 12 := by
    refine hn_sum_one (j := c) hc (fun i hi => ?_) ?_
    · by_cases h12 : i < 12
      · simp only [h12, if_true]
        rw [b_or, hb_pow (by omega) (by omega), decide_eq_false hi, Bool.or_false]
      · simp only [h12, if_false]
    · simp only [hc, if_true]
      rw [b_or, hb_pow (by omega) (by omega), h]
      simp
  have e1 : hm_cu (x ||| ((1 : Int32) <<< (nI c &&& 31))) = hn_sum (fun z => if z < 12 then (if bt (x ||| ((1 : Int32) <<< (nI c &&& 31))) z = true then 0 else 1) else 0) 12 := hn_sum_congr (fun i hi => by rw [if_pos hi])
  have e2 : hm_cu x = hn_sum (fun z => if z < 12 then (if bt x z = true then 0 else 1) else 0) 12 := hn_sum_congr (fun i hi => by rw [if_pos hi])
  rw [e1, e2]
  exact key
theorem hm_new_un {bi : Nat → Int32} {s : Nat} {w x y z : Int32} {Y : HF} (h : hm_new bi s w Y x y z = true) : hm_un (hm_see bi s w x y z Y).1 + 1 = hm_un Y.1 ∧ (hm_see bi s w x y z Y).2.2 = Y.2.2 + 1 := by
  rw [hm_see_yes h]
  refine ⟨?_, rfl⟩
  simp only [hm_new, Bool.and_eq_true, Bool.not_eq_true', decide_eq_false_iff_not, decide_eq_true_eq] at h
  obtain ⟨hx, hy, hz, -, hn⟩ := h
  obtain ⟨a, ha, rfl⟩ := hx_in_nat (n := 12) (by decide) hx
  obtain ⟨b, hb, rfl⟩ := hx_in_nat (n := 12) (by decide) hy
  obtain ⟨c, hc, rfl⟩ := hx_in_nat (n := 12) (by decide) hz
  have e : 12 * nI a + nI b = nI (12 * a + b) := by
    show nI 12 * nI a + nI b = _
    rw [pk_mul, nI_add]
  rw [e, nI_clamp (by omega)] at hn ⊢
  rw [hb_test _ (by omega)] at hn
  unfold hm_un
  refine hn_sum_one (j := 12 * a + b) (by omega) (fun i hi => ?_) ?_
  · simp only [upd, hi, if_false]
  · simp only [upd, if_true]
    exact hm_cu_set hc (Bool.eq_false_iff.mpr hn)
theorem hm_room {bi : Nat → Int32} {s : Nat} {w x y z : Int32} {Y : HF} (hok : hm_ok Y) (h : hm_new bi s w Y x y z = true) : Y.2.2 < 1728 := by
  have h1 := (hm_new_un h).1
  unfold hm_ok at hok
  omega
theorem hm_see_both {bi : Nat → Int32} {s : Nat} {w x y z : Int32} {Y : HF} : (hm_ok Y → hm_ok (hm_see bi s w x y z Y)) ∧ hm_mu (hm_see bi s w x y z Y) ≤ hm_mu Y := by
  cases h : hm_new bi s w Y x y z with
  | false => rw [hm_see_no h]; exact ⟨fun q => q, Nat.le_refl _⟩
  | true =>
    obtain ⟨h1, h2⟩ := hm_new_un h
    unfold hm_ok hm_mu
    exact ⟨fun q => by omega, by omega⟩
theorem hm_see_ok {bi : Nat → Int32} {s : Nat} {w x y z : Int32} {Y : HF} (h : hm_ok Y) : hm_ok (hm_see bi s w x y z Y) := hm_see_both.1 h
theorem hm_one_ok {bi : Nat → Int32} {s : Nat} {w : Int32} {Y : HF} (h : hm_ok Y) : hm_ok (hm_one bi s w Y) := hm_see_ok (hm_see_ok (hm_see_ok (hm_see_ok (hm_see_ok (hm_see_ok h)))))
theorem hm_one_mu {bi : Nat → Int32} {s : Nat} {w : Int32} {Y : HF} : hm_mu (hm_one bi s w Y) ≤ hm_mu Y := Nat.le_trans hm_see_both.2 (Nat.le_trans hm_see_both.2 (Nat.le_trans hm_see_both.2 (Nat.le_trans hm_see_both.2 (Nat.le_trans hm_see_both.2 hm_see_both.2))))
theorem hm_mu_lt {Y : HF} (h : hm_ok Y) : hm_mu Y < 5185 := by
  unfold hm_ok at h
  unfold hm_mu
  omega
theorem hm_lt31 {Y : HF} (h : hm_ok Y) : Y.2.2 < 2 ^ 31 := by
  unfold hm_ok at h
  omega
def hsW (g : Nat → Nat) (cI cC : ClassId) (cols : Nat → Nat → Int32) (sol oth : Nat → Nat) (out : Nat) (num : Nat → Int32) (od dn tb : Int32) (lf tk : Nat → Int32) (en : Int32) (m0 m1 m2 m3 m4 : Nat × va_E) : va_W :=
  (g 0, .inr (hsHi, [.ref (g 1), .ref (g 2), .ref (g 32), .ref (g 5), .ref (g (13 + out))])) ::
  (g 1, .inl (cC, 6, .inr (.inr (.inr (.inr (fun i => some (g (13 + sol i)))))))) ::
  (g 2, .inr (hsSi, [.ref (g 3), .ref (g 4), .int od, .int dn, .int tb])) ::
  (g 3, .inl (cI, 12, .inl num)) ::
  (g 4, .inl (cC, 12, .inr (.inr (.inr (.inr (fun i => some (g (13 + oth i)))))))) ::
  (g 5, .inr (hsFi, [.ref (g 6), .ref (g 7), .int en])) ::
  (g 6, .inl (cI, 144, .inl lf)) ::
  (g 7, .inl (cI, 1728, .inl tk)) ::
  m0 :: m1 :: m2 :: m3 :: m4 ::
  ((List.range 20).map (fun j => ((g (13 + j), .inr (hsCi, [.ref (g (33 + j))])) : Nat × va_E)) ++ (List.range 20).map (fun j => ((g (33 + j), .inl (cI, 144, .inl (cols j))) : Nat × va_E)))
def hmW (xa xb xc xd xe xf xg xh : Nat × va_E) (tl : va_W) (g : Nat → Nat) (cI : ClassId) (bi wh se pi : Nat → Int32) (dn al tp bd : Int32) : va_W :=
  xa :: xb :: xc :: xd :: xe :: xf :: xg :: xh ::
  (g 8, .inr (hsMi, [.ref (g 9), .int dn, .int al, .ref (g 10), .ref (g 11), .int tp, .ref (g 12), .int bd])) ::
  (g 9, .inl (cI, 4464, .inl bi)) ::
  (g 10, .inl (cI, 12, .inl wh)) ::
  (g 11, .inl (cI, 144, .inl se)) ::
  (g 12, .inl (cI, 1728, .inl pi)) :: tl
section HsWorld
variable {g : Nat → Nat} {cI cC : ClassId} {cols : Nat → Nat → Int32} {sol oth : Nat → Nat} {out : Nat} {num : Nat → Int32} {od dn tb : Int32} {lf tk : Nat → Int32} {en : Int32} {m0 m1 m2 m3 m4 : Nat × va_E}
theorem hs_skip13 (x0 x1 x2 x3 x4 x5 x6 x7 x8 x9 x10 x11 x12 : Nat × va_E) (L : va_W) (j : Nat) : (x0 :: x1 :: x2 :: x3 :: x4 :: x5 :: x6 :: x7 :: x8 :: x9 :: x10 :: x11 :: x12 :: L)[13 + j]? = L[j]? := by
  rw [Nat.add_comm]; rfl
theorem hs_set13 (x0 x1 x2 x3 x4 x5 x6 x7 x8 x9 x10 x11 x12 : Nat × va_E) (L : va_W) (j : Nat) (y : Nat × va_E) : (x0 :: x1 :: x2 :: x3 :: x4 :: x5 :: x6 :: x7 :: x8 :: x9 :: x10 :: x11 :: x12 :: L).set (13 + j) y = x0 :: x1 :: x2 :: x3 :: x4 :: x5 :: x6 :: x7 :: x8 :: x9 :: x10 :: x11 :: x12 :: (L.set j y) := by
  rw [Nat.add_comm]; rfl
theorem hsW_cell {j : Nat} (hj : j < 20) : (hsW g cI cC cols sol oth out num od dn tb lf tk en m0 m1 m2 m3 m4)[13 + j]? = some (g (13 + j), .inr (hsCi, [.ref (g (33 + j))])) := by
  unfold hsW
  rw [hs_skip13, List.getElem?_append_left (by simpa using hj), List.getElem?_map, List.getElem?_range hj]
  rfl
theorem hsW_arr {j : Nat} (hj : j < 20) : (hsW g cI cC cols sol oth out num od dn tb lf tk en m0 m1 m2 m3 m4)[33 + j]? = some (g (33 + j), .inl (cI, 144, .inl (cols j))) := by
  unfold hsW
  rw [show 33 + j = 13 + (20 + j) by omega, hs_skip13, List.getElem?_append_right (by simp)]
  simp only [List.length_map, List.length_range, Nat.add_sub_cancel_left]
  rw [List.getElem?_map, List.getElem?_range hj]
  simp only [Option.map_some, ← Nat.add_assoc]
theorem hsW_set {j : Nat} (hj : j < 20) (F : Nat → Int32) : (hsW g cI cC cols sol oth out num od dn tb lf tk en m0 m1 m2 m3 m4).set (33 + j) (g (33 + j), .inl (cI, 144, .inl F)) = hsW g cI cC (va_up cols j F) sol oth out num od dn tb lf tk en m0 m1 m2 m3 m4 := by
  unfold hsW
  rw [show 33 + j = 13 + (20 + j) by omega, hs_set13, List.set_append_right _ _ (by simp)]
  simp only [List.length_map, List.length_range, Nat.add_sub_cancel_left]
  have e : ((List.range 20).map (fun i => ((g (33 + i), .inl (cI, 144, .inl (cols i))) : Nat × va_E))).set j (g (13 + (20 + j)), .inl (cI, 144, .inl F)) = (List.range 20).map (fun i => ((g (33 + i), .inl (cI, 144, .inl (va_up cols j F i))) : Nat × va_E)) := by
    apply List.ext_getElem?
    intro n
    rw [List.getElem?_set]
    simp only [List.length_map, List.length_range]
    by_cases h1 : j = n
    · subst h1
      rw [if_pos rfl, if_pos hj, List.getElem?_map, List.getElem?_range hj]
      simp only [Option.map_some, va_up_self, ← Nat.add_assoc]
    · rw [if_neg h1]
      by_cases h2 : n < 20
      · rw [List.getElem?_map, List.getElem?_map, List.getElem?_range h2]
        simp only [Option.map_some]
        rw [va_up_ne _ _ (fun q => h1 q.symm)]
      · rw [List.getElem?_eq_none (by simp; omega), List.getElem?_eq_none (by simp; omega)]
  rw [e]
end HsWorld
def hsStep (g : Nat → Nat) (cI cC : ClassId) (cols : Nat → Nat → Int32) (sol oth : Nat → Nat) (out : Nat) (num : Nat → Int32) (o d : Nat) (lf tk : Nat → Int32) (en : Int32) (m0 m1 m2 m3 m4 : Nat × va_E) (i : Nat) (F : Nat → Int32) : va_W :=
  hsW g cI cC (va_up cols out F) (va_up sol i out) (va_up oth (hq_p o d) (sol i)) (oth (hq_p o d)) (upd num (hq_p o d) (nI i)) (nI (hq_o o d)) (nI (hq_d d + 1)) 0 lf tk en m0 m1 m2 m3 m4
end
section
section HsRows
variable {p : Program} {l : Launch} {e : Env} {R : Room} {s : State} {m : MethodId} {args : Array Value} {below : List Frame} {meth : Method} {c : Code} {Q : State → Prop} {nL cells slots : Nat} {D : va_G} {cl : List vw_C} {A : Nat → Prop} {H0 : Heap} {pc : Nat} {lv lv' : List (Nat × Value)} {ws ws' : va_W} {rest st : List Value} {cc : ByteArray} {own : String} {tys : List (ClassId × FieldType)}
def hsNw (U : State) : Prop := ((∀ q ∈ hsNF, va_Nw (.fieldLinkNest q.1 q.2.1 q.2.2.1 q.2.2.2.1 q.2.2.2.2.1 q.2.2.2.2.2) U) ∧ ∀ q ∈ hsNM, va_Nw (.methodLinkNest q.1 q.2.1 q.2.2.1 q.2.2.2) U) ∧ va_AO "HewnSolids$Cells" U
theorem hsNw.warm {U : State} (hW : s.WarmedH U.vm) (h : hsNw s) : hsNw U := ⟨⟨fun q hq => va_Nw.warmF hW (h.1.1 q hq), fun q hq => va_Nw.warmM hW (h.1.2 q hq)⟩, va_AO.moved hW.alike h.2⟩
theorem hsNw.same {U : State} (hv : s.vm = U.vm) (h : hsNw s) : hsNw U := ⟨⟨fun q hq => va_Nw.same rfl hv (h.1.1 q hq), fun q hq => va_Nw.same rfl hv (h.1.2 q hq)⟩, va_AO.moved (hv ▸ Vm.Alike.refl s.vm) h.2⟩
def hsV (p : Program) (l : Launch) (e : Env) (R : Room) (s : State) (m : MethodId) (args : Array Value) (below : List Frame) (meth : Method) (c : Code) (Q : State → Prop) (nL : Nat) (D : va_G) (cl : List vw_C) (A : Nat → Prop) (H0 : Heap) (cells slots : Nat) (pc : Nat) (lv : List (Nat × Value)) (ws : va_W) (st : List Value) : Prop :=
  ∀ (H : Heap) (locs : List Loc) (ls : Array Slot), lv_has ls nL lv → va_P D cl ws H → va_D A ws → va_S A H0 H locs → W p l e R s m args below meth c H locs cells slots Q (F0 m pc ls st)
def hsX (p : Program) (m : MethodId) (c : Code) (cc : ByteArray) (nL : Nat) (s : State) (args : Array Value) (own : String) (D : va_G) (cl : List vw_C) (tys : List (ClassId × FieldType)) (A : Nat → Prop) (H0 : Heap) : Prop :=
  CallFix p m c cc nL s args hsAll own ∧ va_K D cl tys s ∧ (∀ q : Nat, H0.size ≤ q → A q) ∧ hsNw s
def hsB (D : va_G) (cl : List vw_C) (tys : List (ClassId × FieldType)) (A : Nat → Prop) (w : va_W) (t : State) : Prop := va_P D cl w t.heap ∧ va_K D cl tys t ∧ va_D A w
def hsP (D : va_G) (cl : List vw_C) (tys : List (ClassId × FieldType)) (av : List Value) (ws : va_W) (sz : Nat) : Array Value → State → Prop := va_Pc av (fun U => U.heap.size = sz ∧ va_P D cl ws U.heap ∧ va_K D cl tys U ∧ va_D (fun _ => True) ws ∧ hsNw U)
def hsI (l : Launch) (y : MethodName) (wds : List Cond) (rm : Room) (D : va_G) (cl : List vw_C) (tys : List (ClassId × FieldType)) (av : List Value) (ws : va_W) (post : Int32 → va_W → Prop) : Prop :=
  ∀ sz : Nat, Met l y wds rm (hsP D cl tys av ws sz) (va_Qi post (hsB D cl tys (va_A ws sz)) (va_A ws sz)) 0 0 (va_A ws sz)
def hsN (l : Launch) (y : MethodName) (wds : List Cond) (rm : Room) (D : va_G) (cl : List vw_C) (tys : List (ClassId × FieldType)) (av : List Value) (ws : va_W) (post : va_W → Prop) : Prop :=
  ∀ sz : Nat, Met l y wds rm (hsP D cl tys av ws sz) (va_Qv post (hsB D cl tys (va_A ws sz)) (va_A ws sz)) 0 0 (va_A ws sz)
def hsQ (l : Launch) (y : MethodName) (wds : List Cond) (rm : Room) (D : va_G) (cl : List vw_C) (tys : List (ClassId × FieldType)) (av : List Value) (ws : va_W) (post : Nat → va_W → Prop) : Prop :=
  ∀ sz : Nat, Met l y wds rm (hsP D cl tys av ws sz) (va_Qr (fun _ : va_W => True) (fun w a t => post a w ∧ hsB D cl tys (va_A ws sz) w t) (va_A ws sz)) 0 0 (va_A ws sz)
theorem hs_lv (hl : lv = lv') (k : hsV p l e R s m args below meth c Q nL D cl A H0 cells slots (pc) lv' ws (rest)) : hsV p l e R s m args below meth c Q nL D cl A H0 cells slots (pc) lv ws (rest) := hl ▸ k
theorem hs_ws (hl : ws = ws') (k : hsV p l e R s m args below meth c Q nL D cl A H0 cells slots (pc) lv ws' (rest)) : hsV p l e R s m args below meth c Q nL D cl A H0 cells slots (pc) lv ws (rest) := hl ▸ k
theorem hs_st (hl : st = rest) (k : hsV p l e R s m args below meth c Q nL D cl A H0 cells slots (pc) lv ws (rest)) : hsV p l e R s m args below meth c Q nL D cl A H0 cells slots (pc) lv ws (st) := hl ▸ k
theorem hs_pick (ks : List Nat) (hl : lv_pick lv ks = lv') (k : hsV p l e R s m args below meth c Q nL D cl A H0 cells slots (pc) lv' ws (rest)) : hsV p l e R s m args below meth c Q nL D cl A H0 cells slots (pc) lv ws (rest) := fun H locs ls hl0 hP hD hS => k H locs ls (lv_sub hl0 ks hl) hP hD hS
theorem hs_top {x y : Int32} (hl : x = y) (k : hsV p l e R s m args below meth c Q nL D cl A H0 cells slots (pc) lv ws (.int y :: rest)) : hsV p l e R s m args below meth c Q nL D cl A H0 cells slots (pc) lv ws (.int x :: rest) := hl ▸ k
theorem hv_iconst (h : hsX p m c cc nL s args own D cl tys A H0) {n : Int} (v : Int32) (hdg : decode cc pc = .ok (.iconst n, 1)) (hv : Int32.ofInt n = v) (k : hsV p l e R s m args below meth c Q nL D cl A H0 cells slots (pc + 1) lv ws (.int v :: rest)) : hsV p l e R s m args below meth c Q nL D cl A H0 cells slots (pc) lv ws (rest) := fun H locs ls hl hP hD hS => lv_iconst h.1.1 h.1.2.1 hdg hv (k H locs ls hl hP hD hS)
theorem hv_bipush (h : hsX p m c cc nL s args own D cl tys A H0) {n : Int} (v : Int32) (hdg : decode cc pc = .ok (.bipush n, 2)) (hv : (Int8.ofInt n).toInt32 = v) (k : hsV p l e R s m args below meth c Q nL D cl A H0 cells slots (pc + 2) lv ws (.int v :: rest)) : hsV p l e R s m args below meth c Q nL D cl A H0 cells slots (pc) lv ws (rest) := fun H locs ls hl hP hD hS => lv_bipush h.1.1 h.1.2.1 hdg hv (k H locs ls hl hP hD hS)
theorem hv_sipush (h : hsX p m c cc nL s args own D cl tys A H0) {n : Int} (v : Int32) (hdg : decode cc pc = .ok (.sipush n, 3)) (hv : (Int16.ofInt n).toInt32 = v) (k : hsV p l e R s m args below meth c Q nL D cl A H0 cells slots (pc + 3) lv ws (.int v :: rest)) : hsV p l e R s m args below meth c Q nL D cl A H0 cells slots (pc) lv ws (rest) := fun H locs ls hl hP hD hS => lv_sipush h.1.1 h.1.2.1 hdg hv (k H locs ls hl hP hD hS)
theorem hv_ldcw (h : hsX p m c cc nL s args own D cl tys A H0) {index : Nat} (v : Int32) (hcn : Cond.constant own index v ∈ hsAll) (hdg : decode cc pc = .ok (.ldc_w index, 3)) (k : hsV p l e R s m args below meth c Q nL D cl A H0 cells slots (pc + 3) lv ws (.int v :: rest)) : hsV p l e R s m args below meth c Q nL D cl A H0 cells slots (pc) lv ws (rest) := fun H locs ls hl hP hD hS => lv_ldcw h.1.1 h.1.2.1 h.1.2.2.2.1 (h.1.2.2.2.2 _ hcn) hdg (k H locs ls hl hP hD hS)
theorem hv_ldc (h : hsX p m c cc nL s args own D cl tys A H0) {index : Nat} (v : Int32) (hcn : Cond.constant own index v ∈ hsAll) (hdg : decode cc pc = .ok (.ldc index, 2)) (k : hsV p l e R s m args below meth c Q nL D cl A H0 cells slots (pc + 2) lv ws (.int v :: rest)) : hsV p l e R s m args below meth c Q nL D cl A H0 cells slots (pc) lv ws (rest) := fun H locs ls hl hP hD hS => lv_ldc h.1.1 h.1.2.1 h.1.2.2.2.1 (h.1.2.2.2.2 _ hcn) hdg (k H locs ls hl hP hD hS)
theorem hv_iload_n (h : hsX p m c cc nL s args own D cl tys A H0) {kk : Fin 4} {i : Nat} {x : Int32} (hdg : decode cc pc = .ok (.iload_n kk, 1)) (j : Nat) (hk : lv[j]? = some (i, .int x)) (hi : (kk : Nat) = i) (k : hsV p l e R s m args below meth c Q nL D cl A H0 cells slots (pc + 1) lv ws (.int x :: rest)) : hsV p l e R s m args below meth c Q nL D cl A H0 cells slots (pc) lv ws (rest) := fun H locs ls hl hP hD hS => lv_iload_n h.1.1 h.1.2.1 hdg hi (lv_at hl j hk) (k H locs ls hl hP hD hS)
theorem hv_iload (h : hsX p m c cc nL s args own D cl tys A H0) {i : Nat} {x : Int32} (hdg : decode cc pc = .ok (.iload i, 2)) (j : Nat) (hk : lv[j]? = some (i, .int x)) (k : hsV p l e R s m args below meth c Q nL D cl A H0 cells slots (pc + 2) lv ws (.int x :: rest)) : hsV p l e R s m args below meth c Q nL D cl A H0 cells slots (pc) lv ws (rest) := fun H locs ls hl hP hD hS => lv_iload h.1.1 h.1.2.1 hdg (lv_at hl j hk) (k H locs ls hl hP hD hS)
theorem hv_aload_n (h : hsX p m c cc nL s args own D cl tys A H0) {kk : Fin 4} {i : Nat} {x : Nat} (hdg : decode cc pc = .ok (.aload_n kk, 1)) (j : Nat) (hk : lv[j]? = some (i, .ref x)) (hi : (kk : Nat) = i) (k : hsV p l e R s m args below meth c Q nL D cl A H0 cells slots (pc + 1) lv ws (.ref x :: rest)) : hsV p l e R s m args below meth c Q nL D cl A H0 cells slots (pc) lv ws (rest) := fun H locs ls hl hP hD hS => lv_aload_n h.1.1 h.1.2.1 hdg hi (lv_at hl j hk) (k H locs ls hl hP hD hS)
theorem hv_aload (h : hsX p m c cc nL s args own D cl tys A H0) {i : Nat} {x : Nat} (hdg : decode cc pc = .ok (.aload i, 2)) (j : Nat) (hk : lv[j]? = some (i, .ref x)) (k : hsV p l e R s m args below meth c Q nL D cl A H0 cells slots (pc + 2) lv ws (.ref x :: rest)) : hsV p l e R s m args below meth c Q nL D cl A H0 cells slots (pc) lv ws (rest) := fun H locs ls hl hP hD hS => lv_aload h.1.1 h.1.2.1 hdg (lv_at hl j hk) (k H locs ls hl hP hD hS)
theorem hv_istore_n (h : hsX p m c cc nL s args own D cl tys A H0) {kk : Fin 4} {i : Nat} {x : Int32} (lv' : List (Nat × Value)) (hdg : decode cc pc = .ok (.istore_n kk, 1)) (hi : (kk : Nat) = i) (hn : i < nL) (hv : (i, Value.int x) :: lv.filter (fun q => !(q.1 == i) && !(q.1 + 1 == i && q.2.category == 2)) = lv') (k : hsV p l e R s m args below meth c Q nL D cl A H0 cells slots (pc + 1) lv' ws (rest)) : hsV p l e R s m args below meth c Q nL D cl A H0 cells slots (pc) lv ws (.int x :: rest) := fun H locs ls hl hP hD hS => lv_istore_n h.1.1 h.1.2.1 hdg hi hl hn hv (fun ls' hl' => k H locs ls' hl' hP hD hS)
theorem hv_istore (h : hsX p m c cc nL s args own D cl tys A H0) {i : Nat} {x : Int32} (lv' : List (Nat × Value)) (hdg : decode cc pc = .ok (.istore i, 2)) (hn : i < nL) (hv : (i, Value.int x) :: lv.filter (fun q => !(q.1 == i) && !(q.1 + 1 == i && q.2.category == 2)) = lv') (k : hsV p l e R s m args below meth c Q nL D cl A H0 cells slots (pc + 2) lv' ws (rest)) : hsV p l e R s m args below meth c Q nL D cl A H0 cells slots (pc) lv ws (.int x :: rest) := fun H locs ls hl hP hD hS => lv_istore h.1.1 h.1.2.1 hdg hl hn hv (fun ls' hl' => k H locs ls' hl' hP hD hS)
theorem hv_astore_n (h : hsX p m c cc nL s args own D cl tys A H0) {kk : Fin 4} {i : Nat} {x : Nat} (lv' : List (Nat × Value)) (hdg : decode cc pc = .ok (.astore_n kk, 1)) (hi : (kk : Nat) = i) (hn : i < nL) (hv : (i, Value.ref x) :: lv.filter (fun q => !(q.1 == i) && !(q.1 + 1 == i && q.2.category == 2)) = lv') (k : hsV p l e R s m args below meth c Q nL D cl A H0 cells slots (pc + 1) lv' ws (rest)) : hsV p l e R s m args below meth c Q nL D cl A H0 cells slots (pc) lv ws (.ref x :: rest) := fun H locs ls hl hP hD hS => lv_astore_n h.1.1 h.1.2.1 hdg hi hl hn hv (fun ls' hl' => k H locs ls' hl' hP hD hS)
theorem hv_astore (h : hsX p m c cc nL s args own D cl tys A H0) {i : Nat} {x : Nat} (lv' : List (Nat × Value)) (hdg : decode cc pc = .ok (.astore i, 2)) (hn : i < nL) (hv : (i, Value.ref x) :: lv.filter (fun q => !(q.1 == i) && !(q.1 + 1 == i && q.2.category == 2)) = lv') (k : hsV p l e R s m args below meth c Q nL D cl A H0 cells slots (pc + 2) lv' ws (rest)) : hsV p l e R s m args below meth c Q nL D cl A H0 cells slots (pc) lv ws (.ref x :: rest) := fun H locs ls hl hP hD hS => lv_astore h.1.1 h.1.2.1 hdg hl hn hv (fun ls' hl' => k H locs ls' hl' hP hD hS)
theorem hv_iinc (h : hsX p m c cc nL s args own D cl tys A H0) {i : Nat} {n : Int} {x : Int32} (v : Int32) (lv' : List (Nat × Value)) (hdg : decode cc pc = .ok (.iinc i n, 3)) (j : Nat) (hk : lv[j]? = some (i, .int x)) (hv : x + Int32.ofInt n = v) (hn : i < nL) (hw : (i, Value.int v) :: lv.filter (fun q => !(q.1 == i) && !(q.1 + 1 == i && q.2.category == 2)) = lv') (k : hsV p l e R s m args below meth c Q nL D cl A H0 cells slots (pc + 3) lv' ws (rest)) : hsV p l e R s m args below meth c Q nL D cl A H0 cells slots (pc) lv ws (rest) := fun H locs ls hl hP hD hS => lv_iinc h.1.1 h.1.2.1 hdg hl hk hv hn hw (fun ls' hl' => k H locs ls' hl' hP hD hS)
theorem hv_iadd (h : hsX p m c cc nL s args own D cl tys A H0) {x y : Int32} (hdg : decode cc pc = .ok (.iadd, 1)) (k : hsV p l e R s m args below meth c Q nL D cl A H0 cells slots (pc + 1) lv ws (.int (x + y) :: rest)) : hsV p l e R s m args below meth c Q nL D cl A H0 cells slots (pc) lv ws (.int y :: .int x :: rest) := fun H locs ls hl hP hD hS => lv_iadd h.1.1 h.1.2.1 hdg (k H locs ls hl hP hD hS)
theorem hw_iadd (h : hsX p m c cc nL s args own D cl tys A H0) {x y : Int32} (v : Int32) (hdg : decode cc pc = .ok (.iadd, 1)) (hv : x + y = v) (k : hsV p l e R s m args below meth c Q nL D cl A H0 cells slots (pc + 1) lv ws (.int v :: rest)) : hsV p l e R s m args below meth c Q nL D cl A H0 cells slots (pc) lv ws (.int y :: .int x :: rest) := fun H locs ls hl hP hD hS => lv_iadd h.1.1 h.1.2.1 hdg (by rw [hv]; exact (k H locs ls hl hP hD hS))
theorem hv_isub (h : hsX p m c cc nL s args own D cl tys A H0) {x y : Int32} (hdg : decode cc pc = .ok (.isub, 1)) (k : hsV p l e R s m args below meth c Q nL D cl A H0 cells slots (pc + 1) lv ws (.int (x - y) :: rest)) : hsV p l e R s m args below meth c Q nL D cl A H0 cells slots (pc) lv ws (.int y :: .int x :: rest) := fun H locs ls hl hP hD hS => lv_isub h.1.1 h.1.2.1 hdg (k H locs ls hl hP hD hS)
theorem hw_isub (h : hsX p m c cc nL s args own D cl tys A H0) {x y : Int32} (v : Int32) (hdg : decode cc pc = .ok (.isub, 1)) (hv : x - y = v) (k : hsV p l e R s m args below meth c Q nL D cl A H0 cells slots (pc + 1) lv ws (.int v :: rest)) : hsV p l e R s m args below meth c Q nL D cl A H0 cells slots (pc) lv ws (.int y :: .int x :: rest) := fun H locs ls hl hP hD hS => lv_isub h.1.1 h.1.2.1 hdg (by rw [hv]; exact (k H locs ls hl hP hD hS))
theorem hv_imul (h : hsX p m c cc nL s args own D cl tys A H0) {x y : Int32} (hdg : decode cc pc = .ok (.imul, 1)) (k : hsV p l e R s m args below meth c Q nL D cl A H0 cells slots (pc + 1) lv ws (.int (x * y) :: rest)) : hsV p l e R s m args below meth c Q nL D cl A H0 cells slots (pc) lv ws (.int y :: .int x :: rest) := fun H locs ls hl hP hD hS => lv_imul h.1.1 h.1.2.1 hdg (k H locs ls hl hP hD hS)
theorem hw_imul (h : hsX p m c cc nL s args own D cl tys A H0) {x y : Int32} (v : Int32) (hdg : decode cc pc = .ok (.imul, 1)) (hv : x * y = v) (k : hsV p l e R s m args below meth c Q nL D cl A H0 cells slots (pc + 1) lv ws (.int v :: rest)) : hsV p l e R s m args below meth c Q nL D cl A H0 cells slots (pc) lv ws (.int y :: .int x :: rest) := fun H locs ls hl hP hD hS => lv_imul h.1.1 h.1.2.1 hdg (by rw [hv]; exact (k H locs ls hl hP hD hS))
theorem hv_iand (h : hsX p m c cc nL s args own D cl tys A H0) {x y : Int32} (hdg : decode cc pc = .ok (.iand, 1)) (k : hsV p l e R s m args below meth c Q nL D cl A H0 cells slots (pc + 1) lv ws (.int (x &&& y) :: rest)) : hsV p l e R s m args below meth c Q nL D cl A H0 cells slots (pc) lv ws (.int y :: .int x :: rest) := fun H locs ls hl hP hD hS => lv_iand h.1.1 h.1.2.1 hdg (k H locs ls hl hP hD hS)
theorem hw_iand (h : hsX p m c cc nL s args own D cl tys A H0) {x y : Int32} (v : Int32) (hdg : decode cc pc = .ok (.iand, 1)) (hv : x &&& y = v) (k : hsV p l e R s m args below meth c Q nL D cl A H0 cells slots (pc + 1) lv ws (.int v :: rest)) : hsV p l e R s m args below meth c Q nL D cl A H0 cells slots (pc) lv ws (.int y :: .int x :: rest) := fun H locs ls hl hP hD hS => lv_iand h.1.1 h.1.2.1 hdg (by rw [hv]; exact (k H locs ls hl hP hD hS))
theorem hv_ior (h : hsX p m c cc nL s args own D cl tys A H0) {x y : Int32} (hdg : decode cc pc = .ok (.ior, 1)) (k : hsV p l e R s m args below meth c Q nL D cl A H0 cells slots (pc + 1) lv ws (.int (x ||| y) :: rest)) : hsV p l e R s m args below meth c Q nL D cl A H0 cells slots (pc) lv ws (.int y :: .int x :: rest) := fun H locs ls hl hP hD hS => lv_ior h.1.1 h.1.2.1 hdg (k H locs ls hl hP hD hS)
theorem hw_ior (h : hsX p m c cc nL s args own D cl tys A H0) {x y : Int32} (v : Int32) (hdg : decode cc pc = .ok (.ior, 1)) (hv : x ||| y = v) (k : hsV p l e R s m args below meth c Q nL D cl A H0 cells slots (pc + 1) lv ws (.int v :: rest)) : hsV p l e R s m args below meth c Q nL D cl A H0 cells slots (pc) lv ws (.int y :: .int x :: rest) := fun H locs ls hl hP hD hS => lv_ior h.1.1 h.1.2.1 hdg (by rw [hv]; exact (k H locs ls hl hP hD hS))
theorem hv_ixor (h : hsX p m c cc nL s args own D cl tys A H0) {x y : Int32} (hdg : decode cc pc = .ok (.ixor, 1)) (k : hsV p l e R s m args below meth c Q nL D cl A H0 cells slots (pc + 1) lv ws (.int (x ^^^ y) :: rest)) : hsV p l e R s m args below meth c Q nL D cl A H0 cells slots (pc) lv ws (.int y :: .int x :: rest) := fun H locs ls hl hP hD hS => lv_ixor h.1.1 h.1.2.1 hdg (k H locs ls hl hP hD hS)
theorem hw_ixor (h : hsX p m c cc nL s args own D cl tys A H0) {x y : Int32} (v : Int32) (hdg : decode cc pc = .ok (.ixor, 1)) (hv : x ^^^ y = v) (k : hsV p l e R s m args below meth c Q nL D cl A H0 cells slots (pc + 1) lv ws (.int v :: rest)) : hsV p l e R s m args below meth c Q nL D cl A H0 cells slots (pc) lv ws (.int y :: .int x :: rest) := fun H locs ls hl hP hD hS => lv_ixor h.1.1 h.1.2.1 hdg (by rw [hv]; exact (k H locs ls hl hP hD hS))
theorem hv_ishl (h : hsX p m c cc nL s args own D cl tys A H0) {x y : Int32} (hdg : decode cc pc = .ok (.ishl, 1)) (k : hsV p l e R s m args below meth c Q nL D cl A H0 cells slots (pc + 1) lv ws (.int (x <<< (y &&& 31)) :: rest)) : hsV p l e R s m args below meth c Q nL D cl A H0 cells slots (pc) lv ws (.int y :: .int x :: rest) := fun H locs ls hl hP hD hS => lv_ishl h.1.1 h.1.2.1 hdg (k H locs ls hl hP hD hS)
theorem hw_ishl (h : hsX p m c cc nL s args own D cl tys A H0) {x y : Int32} (v : Int32) (hdg : decode cc pc = .ok (.ishl, 1)) (hv : x <<< (y &&& 31) = v) (k : hsV p l e R s m args below meth c Q nL D cl A H0 cells slots (pc + 1) lv ws (.int v :: rest)) : hsV p l e R s m args below meth c Q nL D cl A H0 cells slots (pc) lv ws (.int y :: .int x :: rest) := fun H locs ls hl hP hD hS => lv_ishl h.1.1 h.1.2.1 hdg (by rw [hv]; exact (k H locs ls hl hP hD hS))
theorem hv_ishr (h : hsX p m c cc nL s args own D cl tys A H0) {x y : Int32} (hdg : decode cc pc = .ok (.ishr, 1)) (k : hsV p l e R s m args below meth c Q nL D cl A H0 cells slots (pc + 1) lv ws (.int (x >>> (y &&& 31)) :: rest)) : hsV p l e R s m args below meth c Q nL D cl A H0 cells slots (pc) lv ws (.int y :: .int x :: rest) := fun H locs ls hl hP hD hS => lv_ishr h.1.1 h.1.2.1 hdg (k H locs ls hl hP hD hS)
theorem hw_ishr (h : hsX p m c cc nL s args own D cl tys A H0) {x y : Int32} (v : Int32) (hdg : decode cc pc = .ok (.ishr, 1)) (hv : x >>> (y &&& 31) = v) (k : hsV p l e R s m args below meth c Q nL D cl A H0 cells slots (pc + 1) lv ws (.int v :: rest)) : hsV p l e R s m args below meth c Q nL D cl A H0 cells slots (pc) lv ws (.int y :: .int x :: rest) := fun H locs ls hl hP hD hS => lv_ishr h.1.1 h.1.2.1 hdg (by rw [hv]; exact (k H locs ls hl hP hD hS))
theorem hv_idiv (h : hsX p m c cc nL s args own D cl tys A H0) {x y : Int32} (hdg : decode cc pc = .ok (.idiv, 1)) (hne : ¬ y = 0) (k : hsV p l e R s m args below meth c Q nL D cl A H0 cells slots (pc + 1) lv ws (.int (x / y) :: rest)) : hsV p l e R s m args below meth c Q nL D cl A H0 cells slots (pc) lv ws (.int y :: .int x :: rest) := fun H locs ls hl hP hD hS => lv_idiv h.1.1 h.1.2.1 hdg hne (k H locs ls hl hP hD hS)
theorem hw_idiv (h : hsX p m c cc nL s args own D cl tys A H0) {x y : Int32} (v : Int32) (hdg : decode cc pc = .ok (.idiv, 1)) (hne : ¬ y = 0) (hv : x / y = v) (k : hsV p l e R s m args below meth c Q nL D cl A H0 cells slots (pc + 1) lv ws (.int v :: rest)) : hsV p l e R s m args below meth c Q nL D cl A H0 cells slots (pc) lv ws (.int y :: .int x :: rest) := fun H locs ls hl hP hD hS => lv_idiv h.1.1 h.1.2.1 hdg hne (by rw [hv]; exact (k H locs ls hl hP hD hS))
theorem hv_irem (h : hsX p m c cc nL s args own D cl tys A H0) {x y : Int32} (hdg : decode cc pc = .ok (.irem, 1)) (hne : ¬ y = 0) (k : hsV p l e R s m args below meth c Q nL D cl A H0 cells slots (pc + 1) lv ws (.int (x - x / y * y) :: rest)) : hsV p l e R s m args below meth c Q nL D cl A H0 cells slots (pc) lv ws (.int y :: .int x :: rest) := fun H locs ls hl hP hD hS => lv_irem h.1.1 h.1.2.1 hdg hne (k H locs ls hl hP hD hS)
theorem hw_irem (h : hsX p m c cc nL s args own D cl tys A H0) {x y : Int32} (v : Int32) (hdg : decode cc pc = .ok (.irem, 1)) (hne : ¬ y = 0) (hv : x - x / y * y = v) (k : hsV p l e R s m args below meth c Q nL D cl A H0 cells slots (pc + 1) lv ws (.int v :: rest)) : hsV p l e R s m args below meth c Q nL D cl A H0 cells slots (pc) lv ws (.int y :: .int x :: rest) := fun H locs ls hl hP hD hS => lv_irem h.1.1 h.1.2.1 hdg hne (by rw [hv]; exact (k H locs ls hl hP hD hS))
theorem hv_ineg (h : hsX p m c cc nL s args own D cl tys A H0) {x : Int32} (hdg : decode cc pc = .ok (.ineg, 1)) (k : hsV p l e R s m args below meth c Q nL D cl A H0 cells slots (pc + 1) lv ws (.int (-x) :: rest)) : hsV p l e R s m args below meth c Q nL D cl A H0 cells slots (pc) lv ws (.int x :: rest) := fun H locs ls hl hP hD hS => lv_ineg h.1.1 h.1.2.1 hdg (k H locs ls hl hP hD hS)
theorem hv_iushr (h : hsX p m c cc nL s args own D cl tys A H0) {x y : Int32} (hdg : decode cc pc = .ok (.iushr, 1)) (k : hsV p l e R s m args below meth c Q nL D cl A H0 cells slots (pc + 1) lv ws (.int ((x.toUInt32 >>> (y.toUInt32 &&& Int32.toUInt32 31)).toInt32) :: rest)) : hsV p l e R s m args below meth c Q nL D cl A H0 cells slots (pc) lv ws (.int y :: .int x :: rest) := fun H locs ls hl hP hD hS => lv_iushr h.1.1 h.1.2.1 hdg rfl (k H locs ls hl hP hD hS)
theorem hv_dup (h : hsX p m c cc nL s args own D cl tys A H0) {va : Value} (hdg : decode cc pc = .ok (.dup, 1)) (hva : va.category = 1) (k : hsV p l e R s m args below meth c Q nL D cl A H0 cells slots (pc + 1) lv ws (va :: va :: rest)) : hsV p l e R s m args below meth c Q nL D cl A H0 cells slots (pc) lv ws (va :: rest) := fun H locs ls hl hP hD hS => lv_dup h.1.1 h.1.2.1 hdg hva (k H locs ls hl hP hD hS)
theorem hv_pop (h : hsX p m c cc nL s args own D cl tys A H0) {va : Value} (hdg : decode cc pc = .ok (.pop, 1)) (hva : va.category = 1) (k : hsV p l e R s m args below meth c Q nL D cl A H0 cells slots (pc + 1) lv ws (rest)) : hsV p l e R s m args below meth c Q nL D cl A H0 cells slots (pc) lv ws (va :: rest) := fun H locs ls hl hP hD hS => lv_pop h.1.1 h.1.2.1 hdg hva (k H locs ls hl hP hD hS)
theorem hv_dup_x1 (h : hsX p m c cc nL s args own D cl tys A H0) {va vb : Value} (hdg : decode cc pc = .ok (.dup_x1, 1)) (hva : va.category = 1) (hvb : vb.category = 1) (k : hsV p l e R s m args below meth c Q nL D cl A H0 cells slots (pc + 1) lv ws (va :: vb :: va :: rest)) : hsV p l e R s m args below meth c Q nL D cl A H0 cells slots (pc) lv ws (va :: vb :: rest) := fun H locs ls hl hP hD hS => lv_dup_x1 h.1.1 h.1.2.1 hdg hva hvb (k H locs ls hl hP hD hS)
theorem hv_dup2 (h : hsX p m c cc nL s args own D cl tys A H0) {va vb : Value} (hdg : decode cc pc = .ok (.dup2, 1)) (hva : va.category = 1) (hvb : vb.category = 1) (k : hsV p l e R s m args below meth c Q nL D cl A H0 cells slots (pc + 1) lv ws (va :: vb :: va :: vb :: rest)) : hsV p l e R s m args below meth c Q nL D cl A H0 cells slots (pc) lv ws (va :: vb :: rest) := fun H locs ls hl hP hD hS => lv_dup2_11 h.1.1 h.1.2.1 hdg hva hvb (k H locs ls hl hP hD hS)
theorem hv_if_eq (h : hsX p m c cc nL s args own D cl tys A H0) {x : Int32} {off : Int} (tgt : Nat) (hdg : decode cc pc = .ok (.ifCond .eq off, 3)) (ht : (pc : Int) + off = (tgt : Int)) (kt : x = 0 → hsV p l e R s m args below meth c Q nL D cl A H0 cells slots (tgt) lv ws (rest)) (kf : ¬ x = 0 → hsV p l e R s m args below meth c Q nL D cl A H0 cells slots (pc + 3) lv ws (rest)) : hsV p l e R s m args below meth c Q nL D cl A H0 cells slots (pc) lv ws (.int x :: rest) := fun H locs ls hl hP hD hS => lv_if_eq h.1.1 h.1.2.1 hdg ht (fun q => kt q H locs ls hl hP hD hS) (fun q => kf q H locs ls hl hP hD hS)
theorem hv_icmp_eq (h : hsX p m c cc nL s args own D cl tys A H0) {x y : Int32} {off : Int} (tgt : Nat) (hdg : decode cc pc = .ok (.if_icmp .eq off, 3)) (ht : (pc : Int) + off = (tgt : Int)) (kt : x = y → hsV p l e R s m args below meth c Q nL D cl A H0 cells slots (tgt) lv ws (rest)) (kf : ¬ x = y → hsV p l e R s m args below meth c Q nL D cl A H0 cells slots (pc + 3) lv ws (rest)) : hsV p l e R s m args below meth c Q nL D cl A H0 cells slots (pc) lv ws (.int y :: .int x :: rest) := fun H locs ls hl hP hD hS => lv_icmp_eq h.1.1 h.1.2.1 hdg ht (fun q => kt q H locs ls hl hP hD hS) (fun q => kf q H locs ls hl hP hD hS)
theorem hv_if_ne (h : hsX p m c cc nL s args own D cl tys A H0) {x : Int32} {off : Int} (tgt : Nat) (hdg : decode cc pc = .ok (.ifCond .ne off, 3)) (ht : (pc : Int) + off = (tgt : Int)) (kt : ¬ x = 0 → hsV p l e R s m args below meth c Q nL D cl A H0 cells slots (tgt) lv ws (rest)) (kf : x = 0 → hsV p l e R s m args below meth c Q nL D cl A H0 cells slots (pc + 3) lv ws (rest)) : hsV p l e R s m args below meth c Q nL D cl A H0 cells slots (pc) lv ws (.int x :: rest) := fun H locs ls hl hP hD hS => lv_if_ne h.1.1 h.1.2.1 hdg ht (fun q => kt q H locs ls hl hP hD hS) (fun q => kf q H locs ls hl hP hD hS)
theorem hv_icmp_ne (h : hsX p m c cc nL s args own D cl tys A H0) {x y : Int32} {off : Int} (tgt : Nat) (hdg : decode cc pc = .ok (.if_icmp .ne off, 3)) (ht : (pc : Int) + off = (tgt : Int)) (kt : ¬ x = y → hsV p l e R s m args below meth c Q nL D cl A H0 cells slots (tgt) lv ws (rest)) (kf : x = y → hsV p l e R s m args below meth c Q nL D cl A H0 cells slots (pc + 3) lv ws (rest)) : hsV p l e R s m args below meth c Q nL D cl A H0 cells slots (pc) lv ws (.int y :: .int x :: rest) := fun H locs ls hl hP hD hS => lv_icmp_ne h.1.1 h.1.2.1 hdg ht (fun q => kt q H locs ls hl hP hD hS) (fun q => kf q H locs ls hl hP hD hS)
theorem hv_if_lt (h : hsX p m c cc nL s args own D cl tys A H0) {x : Int32} {off : Int} (tgt : Nat) (hdg : decode cc pc = .ok (.ifCond .lt off, 3)) (ht : (pc : Int) + off = (tgt : Int)) (kt : x < 0 → hsV p l e R s m args below meth c Q nL D cl A H0 cells slots (tgt) lv ws (rest)) (kf : ¬ x < 0 → hsV p l e R s m args below meth c Q nL D cl A H0 cells slots (pc + 3) lv ws (rest)) : hsV p l e R s m args below meth c Q nL D cl A H0 cells slots (pc) lv ws (.int x :: rest) := fun H locs ls hl hP hD hS => lv_if_lt h.1.1 h.1.2.1 hdg ht (fun q => kt q H locs ls hl hP hD hS) (fun q => kf q H locs ls hl hP hD hS)
theorem hv_icmp_lt (h : hsX p m c cc nL s args own D cl tys A H0) {x y : Int32} {off : Int} (tgt : Nat) (hdg : decode cc pc = .ok (.if_icmp .lt off, 3)) (ht : (pc : Int) + off = (tgt : Int)) (kt : x < y → hsV p l e R s m args below meth c Q nL D cl A H0 cells slots (tgt) lv ws (rest)) (kf : ¬ x < y → hsV p l e R s m args below meth c Q nL D cl A H0 cells slots (pc + 3) lv ws (rest)) : hsV p l e R s m args below meth c Q nL D cl A H0 cells slots (pc) lv ws (.int y :: .int x :: rest) := fun H locs ls hl hP hD hS => lv_icmp_lt h.1.1 h.1.2.1 hdg ht (fun q => kt q H locs ls hl hP hD hS) (fun q => kf q H locs ls hl hP hD hS)
theorem hv_if_ge (h : hsX p m c cc nL s args own D cl tys A H0) {x : Int32} {off : Int} (tgt : Nat) (hdg : decode cc pc = .ok (.ifCond .ge off, 3)) (ht : (pc : Int) + off = (tgt : Int)) (kt : 0 ≤ x → hsV p l e R s m args below meth c Q nL D cl A H0 cells slots (tgt) lv ws (rest)) (kf : ¬ 0 ≤ x → hsV p l e R s m args below meth c Q nL D cl A H0 cells slots (pc + 3) lv ws (rest)) : hsV p l e R s m args below meth c Q nL D cl A H0 cells slots (pc) lv ws (.int x :: rest) := fun H locs ls hl hP hD hS => lv_if_ge h.1.1 h.1.2.1 hdg ht (fun q => kt q H locs ls hl hP hD hS) (fun q => kf q H locs ls hl hP hD hS)
theorem hv_icmp_ge (h : hsX p m c cc nL s args own D cl tys A H0) {x y : Int32} {off : Int} (tgt : Nat) (hdg : decode cc pc = .ok (.if_icmp .ge off, 3)) (ht : (pc : Int) + off = (tgt : Int)) (kt : y ≤ x → hsV p l e R s m args below meth c Q nL D cl A H0 cells slots (tgt) lv ws (rest)) (kf : ¬ y ≤ x → hsV p l e R s m args below meth c Q nL D cl A H0 cells slots (pc + 3) lv ws (rest)) : hsV p l e R s m args below meth c Q nL D cl A H0 cells slots (pc) lv ws (.int y :: .int x :: rest) := fun H locs ls hl hP hD hS => lv_icmp_ge h.1.1 h.1.2.1 hdg ht (fun q => kt q H locs ls hl hP hD hS) (fun q => kf q H locs ls hl hP hD hS)
theorem hv_if_gt (h : hsX p m c cc nL s args own D cl tys A H0) {x : Int32} {off : Int} (tgt : Nat) (hdg : decode cc pc = .ok (.ifCond .gt off, 3)) (ht : (pc : Int) + off = (tgt : Int)) (kt : 0 < x → hsV p l e R s m args below meth c Q nL D cl A H0 cells slots (tgt) lv ws (rest)) (kf : ¬ 0 < x → hsV p l e R s m args below meth c Q nL D cl A H0 cells slots (pc + 3) lv ws (rest)) : hsV p l e R s m args below meth c Q nL D cl A H0 cells slots (pc) lv ws (.int x :: rest) := fun H locs ls hl hP hD hS => lv_if_gt h.1.1 h.1.2.1 hdg ht (fun q => kt q H locs ls hl hP hD hS) (fun q => kf q H locs ls hl hP hD hS)
theorem hv_icmp_gt (h : hsX p m c cc nL s args own D cl tys A H0) {x y : Int32} {off : Int} (tgt : Nat) (hdg : decode cc pc = .ok (.if_icmp .gt off, 3)) (ht : (pc : Int) + off = (tgt : Int)) (kt : y < x → hsV p l e R s m args below meth c Q nL D cl A H0 cells slots (tgt) lv ws (rest)) (kf : ¬ y < x → hsV p l e R s m args below meth c Q nL D cl A H0 cells slots (pc + 3) lv ws (rest)) : hsV p l e R s m args below meth c Q nL D cl A H0 cells slots (pc) lv ws (.int y :: .int x :: rest) := fun H locs ls hl hP hD hS => lv_icmp_gt h.1.1 h.1.2.1 hdg ht (fun q => kt q H locs ls hl hP hD hS) (fun q => kf q H locs ls hl hP hD hS)
theorem hv_if_le (h : hsX p m c cc nL s args own D cl tys A H0) {x : Int32} {off : Int} (tgt : Nat) (hdg : decode cc pc = .ok (.ifCond .le off, 3)) (ht : (pc : Int) + off = (tgt : Int)) (kt : x ≤ 0 → hsV p l e R s m args below meth c Q nL D cl A H0 cells slots (tgt) lv ws (rest)) (kf : ¬ x ≤ 0 → hsV p l e R s m args below meth c Q nL D cl A H0 cells slots (pc + 3) lv ws (rest)) : hsV p l e R s m args below meth c Q nL D cl A H0 cells slots (pc) lv ws (.int x :: rest) := fun H locs ls hl hP hD hS => lv_if_le h.1.1 h.1.2.1 hdg ht (fun q => kt q H locs ls hl hP hD hS) (fun q => kf q H locs ls hl hP hD hS)
theorem hv_icmp_le (h : hsX p m c cc nL s args own D cl tys A H0) {x y : Int32} {off : Int} (tgt : Nat) (hdg : decode cc pc = .ok (.if_icmp .le off, 3)) (ht : (pc : Int) + off = (tgt : Int)) (kt : x ≤ y → hsV p l e R s m args below meth c Q nL D cl A H0 cells slots (tgt) lv ws (rest)) (kf : ¬ x ≤ y → hsV p l e R s m args below meth c Q nL D cl A H0 cells slots (pc + 3) lv ws (rest)) : hsV p l e R s m args below meth c Q nL D cl A H0 cells slots (pc) lv ws (.int y :: .int x :: rest) := fun H locs ls hl hP hD hS => lv_icmp_le h.1.1 h.1.2.1 hdg ht (fun q => kt q H locs ls hl hP hD hS) (fun q => kf q H locs ls hl hP hD hS)
theorem hv_goto (h : hsX p m c cc nL s args own D cl tys A H0) {off : Int} (tgt : Nat) (hdg : decode cc pc = .ok (.goto off, 3)) (ht : (pc : Int) + off = (tgt : Int)) (k : hsV p l e R s m args below meth c Q nL D cl A H0 cells slots (tgt) lv ws (rest)) : hsV p l e R s m args below meth c Q nL D cl A H0 cells slots (pc) lv ws (rest) := fun H locs ls hl hP hD hS => lv_goto h.1.1 h.1.2.1 hdg ht (k H locs ls hl hP hD hS)
theorem hv_tableOut (h : hsX p m c cc nL s args own D cl tys A H0) {dflt lo hi : Int} {offs : Array Int} {len : Nat} {x : Int32} (tgt : Nat) (hdg : decode cc pc = .ok (.tableswitch dflt lo hi offs, len)) (hx : x.toInt < lo ∨ hi < x.toInt) (ht : (pc : Int) + dflt = (tgt : Int)) (k : hsV p l e R s m args below meth c Q nL D cl A H0 cells slots (tgt) lv ws (rest)) : hsV p l e R s m args below meth c Q nL D cl A H0 cells slots (pc) lv ws (.int x :: rest) := fun H locs ls hl hP hD hS => lv_tableOut h.1.1 h.1.2.1 hdg hx ht (k H locs ls hl hP hD hS)
theorem hv_tableIn (h : hsX p m c cc nL s args own D cl tys A H0) {dflt lo hi : Int} {offs : Array Int} {len : Nat} {x : Int32} {off : Int} (tgt : Nat) (hdg : decode cc pc = .ok (.tableswitch dflt lo hi offs, len)) (h1 : ¬ x.toInt < lo) (h2 : ¬ hi < x.toInt) (ho : offs[(x.toInt - lo).toNat]? = some off) (ht : (pc : Int) + off = (tgt : Int)) (k : hsV p l e R s m args below meth c Q nL D cl A H0 cells slots (tgt) lv ws (rest)) : hsV p l e R s m args below meth c Q nL D cl A H0 cells slots (pc) lv ws (.int x :: rest) := fun H locs ls hl hP hD hS => lv_tableIn h.1.1 h.1.2.1 hdg h1 h2 ho ht (k H locs ls hl hP hD hS)
theorem hv_get (h : hsX p m c cc nL s args own D cl tys A H0) {ref C : String} {T : u_T} {N ci index : Nat} {fs : List Value} {a : Nat} (q0 : Nat) (he : ws[q0]? = some (a, .inr (ci, fs))) (hc : cl[ci]? = some (C, T, N)) (f : Nat) (hk : f < N) (hin : ∀ w ∈ u_ws C T N, w ∈ hsAll) (hlk : Cond.fieldLink own index ref (T f).2.1 (T f).2.2.1 ∈ hsAll) (hsame : ∀ x, s.fieldFound? (T f).1 (T f).2.1 (T f).2.2.1 = some x → s.fieldFound? ref (T f).2.1 (T f).2.2.1 = some x) {v : Value} (hv : fs[f]? = some v) (hdg : decode cc pc = .ok (.getfield index, 3)) (k : hsV p l e R s m args below meth c Q nL D cl A H0 cells slots (pc + 3) lv ws (v :: rest)) : hsV p l e R s m args below meth c Q nL D cl A H0 cells slots (pc) lv ws (.ref a :: rest) := fun H locs ls hl hP hD hS => va_get h.1.1 h.1.2.1 h.1.2.2.2.2 hin h.1.2.2.2.1 h.2.1 hP q0 he hc f hk (h.1.2.2.2.2 _ hlk) hsame hv hdg (k H locs ls hl hP hD hS)
theorem hv_getN (h : hsX p m c cc nL s args own D cl tys A H0) {ref C : String} {T : u_T} {N ci index : Nat} {fs : List Value} {a : Nat} (q0 : Nat) (he : ws[q0]? = some (a, .inr (ci, fs))) (hc : cl[ci]? = some (C, T, N)) (f : Nat) (hk : f < N) (hin : ∀ w ∈ u_ws C T N, w ∈ hsAll) {host : String} (hlk : (own, index, ref, (T f).2.1, (T f).2.2.1, host) ∈ hsNF) (hsame : ∀ x, s.fieldFound? (T f).1 (T f).2.1 (T f).2.2.1 = some x → s.fieldFound? ref (T f).2.1 (T f).2.2.1 = some x) {v : Value} (hv : fs[f]? = some v) (hdg : decode cc pc = .ok (.getfield index, 3)) (k : hsV p l e R s m args below meth c Q nL D cl A H0 cells slots (pc + 3) lv ws (v :: rest)) : hsV p l e R s m args below meth c Q nL D cl A H0 cells slots (pc) lv ws (.ref a :: rest) := fun H locs ls hl hP hD hS => va_getN h.1.1 h.1.2.1 h.1.2.2.2.2 hin h.1.2.2.2.1 h.2.1 hP q0 he hc f hk (va_Nw.use rfl (h.2.2.2.1.1 _ hlk)) hsame hv hdg (k H locs ls hl hP hD hS)
theorem hv_put (h : hsX p m c cc nL s args own D cl tys A H0) {ref C : String} {T : u_T} {N ci index : Nat} {fs : List Value} {a : Nat} (q0 : Nat) (he : ws[q0]? = some (a, .inr (ci, fs))) (hc : cl[ci]? = some (C, T, N)) (f : Nat) (hk : f < N) (hin : ∀ w ∈ u_ws C T N, w ∈ hsAll) (ty0 : Nat → FieldType) (hty : ∀ k, k < N → parseFieldDescriptor (T k).2.2.1 = some (ty0 k)) (hnm : ∀ a, a < N → ∀ b, b < N → a ≠ b → (T a).2.1 ≠ (T b).2.1) (hlk : Cond.fieldLink own index ref (T f).2.1 (T f).2.2.1 ∈ hsAll) (hsame : ∀ x, s.fieldFound? (T f).1 (T f).2.1 (T f).2.2.1 = some x → s.fieldFound? ref (T f).2.1 (T f).2.2.1 = some x) (hfin : (T f).2.2.2 = false) {ty : FieldType} {v : Value} (hd : parseFieldDescriptor (T f).2.2.1 = some ty) (hn : narrow ty v = v) (hfit : fits ty v = true) (hfl : f < fs.length) (hdg : decode cc pc = .ok (.putfield index, 3)) (hw : ws.set q0 (a, .inr (ci, fs.set f v)) = ws') (k : hsV p l e R s m args below meth c Q nL D cl A H0 cells slots (pc + 3) lv ws' (rest)) : hsV p l e R s m args below meth c Q nL D cl A H0 cells slots (pc) lv ws (v :: .ref a :: rest) := fun H locs ls hl hP hD hS => va_put h.1.1 h.1.2.1 h.1.2.2.2.2 hin ty0 hty hnm h.1.2.2.2.1 h.2.1 hP hD hS q0 he hc f hk (h.1.2.2.2.2 _ hlk) hsame hfin hd hn hfit hfl hdg (fun H1 locs1 hP1 hD1 hS1 => k H1 locs1 ls hl (hw ▸ hP1) (hw ▸ hD1) hS1)
theorem hv_putN (h : hsX p m c cc nL s args own D cl tys A H0) {ref C : String} {T : u_T} {N ci index : Nat} {fs : List Value} {a : Nat} (q0 : Nat) (he : ws[q0]? = some (a, .inr (ci, fs))) (hc : cl[ci]? = some (C, T, N)) (f : Nat) (hk : f < N) (hin : ∀ w ∈ u_ws C T N, w ∈ hsAll) {host : String} (ty0 : Nat → FieldType) (hty : ∀ k, k < N → parseFieldDescriptor (T k).2.2.1 = some (ty0 k)) (hnm : ∀ a, a < N → ∀ b, b < N → a ≠ b → (T a).2.1 ≠ (T b).2.1) (hlk : (own, index, ref, (T f).2.1, (T f).2.2.1, host) ∈ hsNF) (hsame : ∀ x, s.fieldFound? (T f).1 (T f).2.1 (T f).2.2.1 = some x → s.fieldFound? ref (T f).2.1 (T f).2.2.1 = some x) (hfin : (T f).2.2.2 = false) {ty : FieldType} {v : Value} (hd : parseFieldDescriptor (T f).2.2.1 = some ty) (hn : narrow ty v = v) (hfit : fits ty v = true) (hfl : f < fs.length) (hdg : decode cc pc = .ok (.putfield index, 3)) (hw : ws.set q0 (a, .inr (ci, fs.set f v)) = ws') (k : hsV p l e R s m args below meth c Q nL D cl A H0 cells slots (pc + 3) lv ws' (rest)) : hsV p l e R s m args below meth c Q nL D cl A H0 cells slots (pc) lv ws (v :: .ref a :: rest) := fun H locs ls hl hP hD hS => va_putN h.1.1 h.1.2.1 h.1.2.2.2.2 hin ty0 hty hnm h.1.2.2.2.1 h.2.1 hP hD hS q0 he hc f hk (va_Nw.use rfl (h.2.2.2.1.1 _ hlk)) hsame hfin hd hn hfit hfl hdg (fun H1 locs1 hP1 hD1 hS1 => k H1 locs1 ls hl (hw ▸ hP1) (hw ▸ hD1) hS1)
theorem hv_iald (h : hsX p m c cc nL s args own D cl tys A H0) {a : Nat} {cA : ClassId} {n : Nat} {f : Nat → Int32} {i : Int32} {v : Int32} (q0 t0 : Nat) (ha : ws[q0]? = some (a, .inl (cA, n, .inl f))) (ht : tys[t0]? = some (cA, .int)) (hin : vp_in i n) (hv : f i.toNatClampNeg = v) (hdg : decode cc pc = .ok (.iaload, 1)) (k : hsV p l e R s m args below meth c Q nL D cl A H0 cells slots (pc + 1) lv ws (.int v :: rest)) : hsV p l e R s m args below meth c Q nL D cl A H0 cells slots (pc) lv ws (.int i :: .ref a :: rest) := fun H locs ls hl hP hD hS => va_iald h.1.1 h.1.2.1 h.2.1 hP q0 t0 ha ht hin hdg (by rw [hv]; exact (k H locs ls hl hP hD hS))
theorem hv_iast (h : hsX p m c cc nL s args own D cl tys A H0) {a : Nat} {cA : ClassId} {n : Nat} {f : Nat → Int32} {i x : Int32} (q0 t0 : Nat) (ha : ws[q0]? = some (a, .inl (cA, n, .inl f))) (ht : tys[t0]? = some (cA, .int)) (hin : vp_in i n) (hdg : decode cc pc = .ok (.iastore, 1)) (hw : ws.set q0 (a, .inl (cA, n, .inl (upd f i.toNatClampNeg x))) = ws') (k : hsV p l e R s m args below meth c Q nL D cl A H0 cells slots (pc + 1) lv ws' (rest)) : hsV p l e R s m args below meth c Q nL D cl A H0 cells slots (pc) lv ws (.int x :: .int i :: .ref a :: rest) := fun H locs ls hl hP hD hS => va_iast h.1.1 h.1.2.1 h.2.1 hP hD hS q0 t0 ha ht hin hdg (fun H1 locs1 hP1 hD1 hS1 => k H1 locs1 ls hl (hw ▸ hP1) (hw ▸ hD1) hS1)
theorem hv_aald (h : hsX p m c cc nL s args own D cl tys A H0) {a : Nat} {cA : ClassId} {n : Nat} {C : String} {f : Nat → Option Nat} {i : Int32} {v : Value} (q0 t0 : Nat) (ha : ws[q0]? = some (a, .inl (cA, n, .inr (.inr (.inr (.inr f)))))) (ht : tys[t0]? = some (cA, .object C)) (hin : vp_in i n) (hv : va_rf (f i.toNatClampNeg) = v) (hdg : decode cc pc = .ok (.aaload, 1)) (k : hsV p l e R s m args below meth c Q nL D cl A H0 cells slots (pc + 1) lv ws (v :: rest)) : hsV p l e R s m args below meth c Q nL D cl A H0 cells slots (pc) lv ws (.int i :: .ref a :: rest) := fun H locs ls hl hP hD hS => va_aldq h.1.1 h.1.2.1 h.2.1 hP q0 t0 ha ht hin hdg (by rw [hv]; exact (k H locs ls hl hP hD hS))
theorem hv_aast (h : hsX p m c cc nL s args own D cl tys A H0) {a : Nat} {cA : ClassId} {n : Nat} {r : vw_C} {v ci : Nat} {vs : List Value} {f : Nat → Option Nat} {i : Int32} (q0 t0 qk : Nat) (ha : ws[q0]? = some (a, .inl (cA, n, .inr (.inr (.inr (.inr f)))))) (ht : tys[t0]? = some (cA, .object r.1)) (hv : ws[qk]? = some (v, .inr (ci, vs))) (hc : cl[ci]? = some r) (hin : vp_in i n) (hdg : decode cc pc = .ok (.aastore, 1)) (hw : ws.set q0 (a, .inl (cA, n, .inr (.inr (.inr (.inr (va_up f i.toNatClampNeg (some v))))))) = ws') (k : hsV p l e R s m args below meth c Q nL D cl A H0 cells slots (pc + 1) lv ws' (rest)) : hsV p l e R s m args below meth c Q nL D cl A H0 cells slots (pc) lv ws (.ref v :: .int i :: .ref a :: rest) := fun H locs ls hl hP hD hS => va_astq h.1.1 h.1.2.1 h.2.1 hP hD hS q0 t0 qk ci ha ht hv hc hin hdg (fun H1 locs1 hP1 hD1 hS1 => k H1 locs1 ls hl (hw ▸ hP1) (hw ▸ hD1) hS1)
theorem hv_alen (h : hsX p m c cc nL s args own D cl tys A H0) {a : Nat} {cA : ClassId} {x : vp_A} {ty : FieldType} (q0 t0 : Nat) (v : Int32) (ha : ws[q0]? = some (a, .inl (cA, x))) (ht : tys[t0]? = some (cA, ty)) (hv : Int32.ofNat x.1 = v) (hdg : decode cc pc = .ok (.arraylength, 1)) (k : hsV p l e R s m args below meth c Q nL D cl A H0 cells slots (pc + 1) lv ws (.int v :: rest)) : hsV p l e R s m args below meth c Q nL D cl A H0 cells slots (pc) lv ws (.ref a :: rest) := fun H locs ls hl hP hD hS => va_alen h.1.1 h.1.2.1 h.2.1 hP q0 t0 ha ht hv hdg (k H locs ls hl hP hD hS)
theorem hv_iret {post : Int32 → va_W → Prop} {v : Int32} (h : hsX p m c cc nL s args own D cl tys A s.heap) (hr : meth.sig.returnType = some .int) (hlk : meth.locks = false) (hQ : Q = MQ below (va_Qi post (hsB D cl tys A) A) args s cells slots A) (hdg : decode cc pc = .ok (.ireturn, 1)) (hq : post v ws) : hsV p l e R s m args below meth c Q nL D cl A s.heap cells slots pc lv ws [.int v] := by subst hQ; exact fun H locs ls hl hP hD hS => W.iret h.1.1 h.1.2.1 hr (fun t ht hW => ⟨⟨v, ws, rfl, hq, by rw [ht]; exact hP, va_K.moved hW.alike h.2.1, hD⟩, hS.F ht⟩) hS.2.2 hdg hlk
theorem hv_zret {post : Int32 → va_W → Prop} {v : Int32} (h : hsX p m c cc nL s args own D cl tys A s.heap) (hr : meth.sig.returnType = some .boolean) (hlk : meth.locks = false) (hQ : Q = MQ below (va_Qi post (hsB D cl tys A) A) args s cells slots A) (hdg : decode cc pc = .ok (.ireturn, 1)) (hn : narrow .boolean (.int v) = .int v) (hq : post v ws) : hsV p l e R s m args below meth c Q nL D cl A s.heap cells slots pc lv ws [.int v] := by subst hQ; exact fun H locs ls hl hP hD hS => W.zret h.1.1 h.1.2.1 hr hn (fun t ht hW => ⟨⟨v, ws, rfl, hq, by rw [ht]; exact hP, va_K.moved hW.alike h.2.1, hD⟩, hS.F ht⟩) hS.2.2 hdg hlk
theorem hv_vret {post : va_W → Prop} (h : hsX p m c cc nL s args own D cl tys A s.heap) (hr : meth.sig.returnType = none) (hlk : meth.locks = false) (hQ : Q = MQ below (va_Qv post (hsB D cl tys A) A) args s cells slots A) (hdg : decode cc pc = .ok (.return_, 1)) (hq : post ws) : hsV p l e R s m args below meth c Q nL D cl A s.heap cells slots pc lv ws [] := by subst hQ; exact fun H locs ls hl hP hD hS => W.vret h.1.1 h.1.2.1 hr (fun t ht hW => ⟨⟨ws, rfl, hq, by rw [ht]; exact hP, va_K.moved hW.alike h.2.1, hD⟩, hS.F ht⟩) hS.2.2 hdg hlk
theorem hv_aret {post : Nat → va_W → Prop} {a : Nat} {C : String} (h : hsX p m c cc nL s args own D cl tys A s.heap) (hr : meth.sig.returnType = some (.object C)) (hlk : meth.locks = false) (hQ : Q = MQ below (va_Qr (fun _ : va_W => True) (fun w a t => post a w ∧ hsB D cl tys A w t) A) args s cells slots A) (hdg : decode cc pc = .ok (.areturn, 1)) (hq : post a ws) : hsV p l e R s m args below meth c Q nL D cl A s.heap cells slots pc lv ws [.ref a] := by subst hQ; exact fun H locs ls hl hP hD hS => W.aret h.1.1 h.1.2.1 hr (Or.inl ⟨_, rfl⟩) (Or.inr ⟨_, rfl⟩) (fun t ht hW => ⟨⟨ws, a, rfl, trivial, hq, by rw [ht]; exact hP, va_K.moved hW.alike h.2.1, hD⟩, hS.F ht⟩) hS.2.2 hdg hlk
theorem hsI.enter {y : MethodName} {wds : List Cond} {rm : Room} {av : List Value} {post : Int32 → va_W → Prop} {maxL : Nat} {ret : Option FieldType} (hy : plainName y.cls = true) (hw : wds = Cond.code y cc maxL ret :: hsAll) (hav : (lg_sl av).length ≤ maxL)
    (body : ∀ (p : Program) (e : Env) (s : State) (m : MethodId) (args : Array Value) (below : List Frame) (meth : Method) (c : Code) (A : Nat → Prop) (Q : State → Prop), Q = MQ below (va_Qi post (hsB D cl tys A) A) args s 0 0 A → hsX p m c cc maxL s args y.cls D cl tys A s.heap → meth.sig.returnType = ret → meth.locks = false → hsV p l e rm s m args below meth c Q maxL D cl A s.heap 0 0 0 (lv_args 0 av) ws []) : hsI l y wds rm D cl tys av ws post := by
  intro sz
  refine Met.ofW (cc := cc) (maxL := maxL) (ret := ret) hy hw ?_
  intro p e s m args below meth c s₁ B hml hv
  obtain ⟨rfl, hsz, hP, hK, hD0, hNw⟩ := hv
  have hts0 := atoms_spec (ws := wds) B.pre
  have hts : ∀ w ∈ hsAll, w.before av.toArray s = true := fun w hq => hts0 w (by rw [hw]; exact List.mem_cons_of_mem _ hq)
  have hown : s.vm.findClass y.cls = some m.cls := findClass_of_methodNamed B.named
  subst hsz
  have hD := hD0.self (sz := s.heap.size)
  have hl := lv_entry av (n := maxL) hav
  rw [lg_entry_eq]
  exact body p e s m _ below meth c _ _ rfl ⟨⟨B.exec, B.bytes, hml, hown, hts⟩, hK, fun q h => Or.inr h, hNw⟩ B.returns B.notSynchronized _ _ _ hl hP hD va_S.rf
theorem hsN.enter {y : MethodName} {wds : List Cond} {rm : Room} {av : List Value} {post : va_W → Prop} {maxL : Nat} {ret : Option FieldType} (hy : plainName y.cls = true) (hw : wds = Cond.code y cc maxL ret :: hsAll) (hav : (lg_sl av).length ≤ maxL)
    (body : ∀ (p : Program) (e : Env) (s : State) (m : MethodId) (args : Array Value) (below : List Frame) (meth : Method) (c : Code) (A : Nat → Prop) (Q : State → Prop), Q = MQ below (va_Qv post (hsB D cl tys A) A) args s 0 0 A → hsX p m c cc maxL s args y.cls D cl tys A s.heap → meth.sig.returnType = ret → meth.locks = false → hsV p l e rm s m args below meth c Q maxL D cl A s.heap 0 0 0 (lv_args 0 av) ws []) : hsN l y wds rm D cl tys av ws post := by
  intro sz
  refine Met.ofW (cc := cc) (maxL := maxL) (ret := ret) hy hw ?_
  intro p e s m args below meth c s₁ B hml hv
  obtain ⟨rfl, hsz, hP, hK, hD0, hNw⟩ := hv
  have hts0 := atoms_spec (ws := wds) B.pre
  have hts : ∀ w ∈ hsAll, w.before av.toArray s = true := fun w hq => hts0 w (by rw [hw]; exact List.mem_cons_of_mem _ hq)
  have hown : s.vm.findClass y.cls = some m.cls := findClass_of_methodNamed B.named
  subst hsz
  have hD := hD0.self (sz := s.heap.size)
  have hl := lv_entry av (n := maxL) hav
  rw [lg_entry_eq]
  exact body p e s m _ below meth c _ _ rfl ⟨⟨B.exec, B.bytes, hml, hown, hts⟩, hK, fun q h => Or.inr h, hNw⟩ B.returns B.notSynchronized _ _ _ hl hP hD va_S.rf
theorem hsQ.enter {y : MethodName} {wds : List Cond} {rm : Room} {av : List Value} {post : Nat → va_W → Prop} {maxL : Nat} {ret : Option FieldType} (hy : plainName y.cls = true) (hw : wds = Cond.code y cc maxL ret :: hsAll) (hav : (lg_sl av).length ≤ maxL)
    (body : ∀ (p : Program) (e : Env) (s : State) (m : MethodId) (args : Array Value) (below : List Frame) (meth : Method) (c : Code) (A : Nat → Prop) (Q : State → Prop), Q = MQ below (va_Qr (fun _ : va_W => True) (fun w a t => post a w ∧ hsB D cl tys A w t) A) args s 0 0 A → hsX p m c cc maxL s args y.cls D cl tys A s.heap → meth.sig.returnType = ret → meth.locks = false → hsV p l e rm s m args below meth c Q maxL D cl A s.heap 0 0 0 (lv_args 0 av) ws []) : hsQ l y wds rm D cl tys av ws post := by
  intro sz
  refine Met.ofW (cc := cc) (maxL := maxL) (ret := ret) hy hw ?_
  intro p e s m args below meth c s₁ B hml hv
  obtain ⟨rfl, hsz, hP, hK, hD0, hNw⟩ := hv
  have hts0 := atoms_spec (ws := wds) B.pre
  have hts : ∀ w ∈ hsAll, w.before av.toArray s = true := fun w hq => hts0 w (by rw [hw]; exact List.mem_cons_of_mem _ hq)
  have hown : s.vm.findClass y.cls = some m.cls := findClass_of_methodNamed B.named
  subst hsz
  have hD := hD0.self (sz := s.heap.size)
  have hl := lv_entry av (n := maxL) hav
  rw [lg_entry_eq]
  exact body p e s m _ below meth c _ _ rfl ⟨⟨B.exec, B.bytes, hml, hown, hts⟩, hK, fun q h => Or.inr h, hNw⟩ B.returns B.notSynchronized _ _ _ hl hP hD va_S.rf
theorem hs_free {H : Heap} {locs : List Loc} (hD : va_D A ws) (hS : va_S A H0 H locs) (hA : ∀ q : Nat, H0.size ≤ q → A q) : ∀ q, va_A ws H.size q → A q := by
  intro q hq
  rcases hq with ⟨k, x, hk⟩ | hq
  · exact hD.2 k (q, x) hk
  · exact hA q (Nat.le_trans hS.1 hq)
theorem hv_calli {post : Int32 → va_W → Prop} {a0 : Array Value} (h : hsX p m c cc nL s args own D cl tys A H0) (hrun : ∀ (H : Heap) (locs : List Loc) (ls : Array Slot), lv_has ls nL lv → va_P D cl ws H → va_D A ws → va_Run p l e R s m args below meth c H locs cells slots 0 0 (F0 m pc ls st) rest ((va_Qi post (hsB D cl tys (va_A ws H.size)) (va_A ws H.size)) a0) (va_A ws H.size)) (kk : ∀ (r : Int32) (w : va_W), post r w → hsV p l e R s m args below meth c Q nL D cl A H0 cells slots (pc + 3) lv w (.int r :: rest)) : hsV p l e R s m args below meth c Q nL D cl A H0 cells slots (pc) lv ws (st) := fun H locs ls hl hP hD hS => va_calli (hrun H locs ls hl hP hD) hS (fun q _ hq => hs_free hD hS h.2.2.1 q hq) (hs_free hD hS h.2.2.1) (fun r u t H1 locs1 ht _ hp hB _ _ hS1 => kk r u hp H1 locs1 ls hl (ht ▸ hB.1) (hB.2.2.weaken (fun _ q _ hq => hs_free hD hS h.2.2.1 q.1 hq)) hS1)
theorem hv_callv {post : va_W → Prop} {a0 : Array Value} (h : hsX p m c cc nL s args own D cl tys A H0) (hrun : ∀ (H : Heap) (locs : List Loc) (ls : Array Slot), lv_has ls nL lv → va_P D cl ws H → va_D A ws → va_Run p l e R s m args below meth c H locs cells slots 0 0 (F0 m pc ls st) rest ((va_Qv post (hsB D cl tys (va_A ws H.size)) (va_A ws H.size)) a0) (va_A ws H.size)) (kk : ∀ (w : va_W), post w → hsV p l e R s m args below meth c Q nL D cl A H0 cells slots (pc + 3) lv w (rest)) : hsV p l e R s m args below meth c Q nL D cl A H0 cells slots (pc) lv ws (st) := fun H locs ls hl hP hD hS => va_callv (hrun H locs ls hl hP hD) hS (fun q _ hq => hs_free hD hS h.2.2.1 q hq) (hs_free hD hS h.2.2.1) (fun u t H1 locs1 ht _ hp hB _ _ hS1 => kk u hp H1 locs1 ls hl (ht ▸ hB.1) (hB.2.2.weaken (fun _ q _ hq => hs_free hD hS h.2.2.1 q.1 hq)) hS1)
theorem hv_callr {post : Nat → va_W → Prop} {a0 : Array Value} (h : hsX p m c cc nL s args own D cl tys A H0) (hrun : ∀ (H : Heap) (locs : List Loc) (ls : Array Slot), lv_has ls nL lv → va_P D cl ws H → va_D A ws → va_Run p l e R s m args below meth c H locs cells slots 0 0 (F0 m pc ls st) rest ((va_Qr (fun _ : va_W => True) (fun w a t => post a w ∧ hsB D cl tys (va_A ws H.size) w t) (va_A ws H.size)) a0) (va_A ws H.size)) (kk : ∀ (r : Nat) (w : va_W), post r w → hsV p l e R s m args below meth c Q nL D cl A H0 cells slots (pc + 3) lv w (.ref r :: rest)) : hsV p l e R s m args below meth c Q nL D cl A H0 cells slots (pc) lv ws (st) := fun H locs ls hl hP hD hS => va_callr (hrun H locs ls hl hP hD) hS (fun q _ hq => hs_free hD hS h.2.2.1 q hq) (hs_free hD hS h.2.2.1) (fun u ra t H1 locs1 ht _ _ hB _ _ hS1 => kk ra u hB.1 H1 locs1 ls hl (ht ▸ hB.2.1) (hB.2.2.2.weaken (fun _ q _ hq => hs_free hD hS h.2.2.1 q.1 hq)) hS1)
theorem hs_blind {av : List Value} {sz : Nat} : FrameBlind (hsP D cl tys av ws sz) := fun a U g mk q => by
  obtain ⟨q0, q1, qP, qK, qD, qN⟩ := q
  exact ⟨q0, q1, qP, va_K.moved (u := U) (U := U.calling g mk a) (Vm.Alike.refl U.vm) qK, qD, qN.same rfl⟩
theorem hs_pre {av : List Value} {H : Heap} (hN : hsNw s) (hK : va_K D cl tys s) (hP : va_P D cl ws H) (hD : va_D A ws) : ∀ U : State, U.heap = H → s.WarmedH U.vm → hsP D cl tys av ws H.size av.toArray U := fun U hU hW => ⟨rfl, by rw [hU], by rw [hU]; exact hP, va_K.moved hW.alike hK, hD.weaken (fun _ _ _ _ => trivial), hN.warm hW⟩
theorem hs_goodC {y : MethodName} {bytes : ByteArray} {maxL : Nat} {ret : Option FieldType} (hcd : Cond.code y bytes maxL ret ∈ hsAll) : GoodIn hsAll (Cond.code y bytes maxL ret :: hsAll) := fun w hw => by
  rcases List.mem_cons.mp hw with rfl | hw
  · exact ⟨hcd, hs_all_good hcd⟩
  · exact ⟨hw, hs_all_good hw⟩
theorem hr_Si {y : MethodName} {rm : Room} {bytes : ByteArray} {maxL index n : Nat} {ret : Option FieldType} {As : List Value} {post : Int32 → va_W → Prop} (h : hsX p m c cc nL s args own D cl tys A H0) (hM : hsI l y (Cond.code y bytes maxL ret :: hsAll) rm D cl tys As ws post) (hlk : Cond.methodLink own index y ∈ hsAll) (hsta : Cond.static y ∈ hsAll) (hini : Cond.initialized y.cls ∈ hsAll) (hcd : Cond.code y bytes maxL ret ∈ hsAll) (hd : y.cls ≠ "java/lang/invoke/MethodHandle" ∧ y.cls ≠ "java/lang/invoke/VarHandle" ∧ (parseMethodDescriptor y.desc).map (fun d => d.parameters.length) = some n) (hn : As.length = n) (hrc : rm.cells = 0) (hrs : rm.slots = 0) (hR : rm.frames + 1 ≤ R.frames ∧ 8 + (maxL + 11) + rm.locals ≤ R.locals) (hst : st = As.reverse ++ rest) (hcat : (rest.map fun v => v.category).sum ≤ 8) (hcs : cells ≤ R.cells ∧ slots ≤ R.slots) (hdg : decode cc pc = .ok (.invokestatic index, 3)) : ∀ (H : Heap) (locs : List Loc) (ls : Array Slot), lv_has ls nL lv → va_P D cl ws H → va_D A ws → va_Run p l e R s m args below meth c H locs cells slots 0 0 (F0 m pc ls st) rest ((va_Qi post (hsB D cl tys (va_A ws H.size)) (va_A ws H.size)) As.toArray) (va_A ws H.size) := fun H locs ls hl hP hD => va_runS h.1 (hM H.size) ⟨callB_of n h.1.2.2.2.2 (hs_goodC hcd) rfl hrc hrs (h.1.2.2.2.2 _ hini) (h.1.2.2.2.2 _ hlk) hd hR, h.1.2.2.2.2 _ hsta⟩ ⟨hs_blind, hs_pre h.2.2.2 h.2.1 hP hD⟩ rfl hn hl.1 hst (lv_room hcat) hdg hcs
theorem hr_SNi {y : MethodName} {rm : Room} {bytes : ByteArray} {maxL index n : Nat} {ret : Option FieldType} {As : List Value} {host : String} {post : Int32 → va_W → Prop} (h : hsX p m c cc nL s args own D cl tys A H0) (hM : hsI l y (Cond.code y bytes maxL ret :: hsAll) rm D cl tys As ws post) (hlk : (own, index, y, host) ∈ hsNM) (hsta : Cond.static y ∈ hsAll) (hini : Cond.initialized y.cls ∈ hsAll) (hcd : Cond.code y bytes maxL ret ∈ hsAll) (hd : y.cls ≠ "java/lang/invoke/MethodHandle" ∧ y.cls ≠ "java/lang/invoke/VarHandle" ∧ (parseMethodDescriptor y.desc).map (fun d => d.parameters.length) = some n) (hn : As.length = n) (hrc : rm.cells = 0) (hrs : rm.slots = 0) (hR : rm.frames + 1 ≤ R.frames ∧ 8 + (maxL + 11) + rm.locals ≤ R.locals) (hst : st = As.reverse ++ rest) (hcat : (rest.map fun v => v.category).sum ≤ 8) (hcs : cells ≤ R.cells ∧ slots ≤ R.slots) (hdg : decode cc pc = .ok (.invokestatic index, 3)) : ∀ (H : Heap) (locs : List Loc) (ls : Array Slot), lv_has ls nL lv → va_P D cl ws H → va_D A ws → va_Run p l e R s m args below meth c H locs cells slots 0 0 (F0 m pc ls st) rest ((va_Qi post (hsB D cl tys (va_A ws H.size)) (va_A ws H.size)) As.toArray) (va_A ws H.size) := fun H locs ls hl hP hD => va_runSN h.1 (hM H.size) ⟨va_cnB n h.1.2.2.2.2 (hs_goodC hcd) rfl hrc hrs (h.2.2.2.1.2 _ hlk) (h.1.2.2.2.2 _ hini) hd hR, h.1.2.2.2.2 _ hsta, trivial⟩ ⟨hs_blind, hs_pre h.2.2.2 h.2.1 hP hD⟩ rfl hn hl.1 hst (lv_room hcat) hdg hcs
theorem hr_Vi {y : MethodName} {rm : Room} {bytes : ByteArray} {maxL index n : Nat} {ret : Option FieldType} {As : List Value} {post : Int32 → va_W → Prop} (h : hsX p m c cc nL s args own D cl tys A H0) {b ci : Nat} {fs : List Value} {C : String} {T : u_T} {N : Nat} (q0 : Nat) (hq0 : ws[q0]? = some (b, .inr (ci, fs))) (hcl : cl[ci]? = some (C, T, N)) (hM : hsI l y (Cond.code y bytes maxL ret :: hsAll) rm D cl tys (.ref b :: As) ws post) (hlk : Cond.methodLink own index y ∈ hsAll) (hinst : Cond.instanceMethod y ∈ hsAll) (hsel : Cond.selects C y y ∈ hsAll) (hini : Cond.initialized y.cls ∈ hsAll) (hcd : Cond.code y bytes maxL ret ∈ hsAll) (hd : y.cls ≠ "java/lang/invoke/MethodHandle" ∧ y.cls ≠ "java/lang/invoke/VarHandle" ∧ (parseMethodDescriptor y.desc).map (fun d => d.parameters.length) = some n) (hn : As.length = n) (hrc : rm.cells = 0) (hrs : rm.slots = 0) (hR : rm.frames + 1 ≤ R.frames ∧ 8 + (maxL + 11) + rm.locals ≤ R.locals) (hst : st = As.reverse ++ .ref b :: rest) (hcat : (rest.map fun v => v.category).sum ≤ 8) (hcs : cells ≤ R.cells ∧ slots ≤ R.slots) (hdg : decode cc pc = .ok (.invokevirtual index, 3)) : ∀ (H : Heap) (locs : List Loc) (ls : Array Slot), lv_has ls nL lv → va_P D cl ws H → va_D A ws → va_Run p l e R s m args below meth c H locs cells slots 0 0 (F0 m pc ls st) rest ((va_Qi post (hsB D cl tys (va_A ws H.size)) (va_A ws H.size)) (Value.ref b :: As).toArray) (va_A ws H.size) := fun H locs ls hl hP hD => va_runV h.1 (hM H.size) ⟨callB_of n h.1.2.2.2.2 (hs_goodC hcd) rfl hrc hrs (h.1.2.2.2.2 _ hini) (h.1.2.2.2.2 _ hlk) hd hR, h.1.2.2.2.2 _ hinst, h.1.2.2.2.2 _ hsel⟩ ⟨hs_blind, va_recv h.2.1 hP hcl hq0, hs_pre h.2.2.2 h.2.1 hP hD⟩ rfl hn hl.1 hst (lv_room hcat) hdg hcs
theorem hr_Sv {y : MethodName} {rm : Room} {bytes : ByteArray} {maxL index n : Nat} {ret : Option FieldType} {As : List Value} {post : va_W → Prop} (h : hsX p m c cc nL s args own D cl tys A H0) (hM : hsN l y (Cond.code y bytes maxL ret :: hsAll) rm D cl tys As ws post) (hlk : Cond.methodLink own index y ∈ hsAll) (hsta : Cond.static y ∈ hsAll) (hini : Cond.initialized y.cls ∈ hsAll) (hcd : Cond.code y bytes maxL ret ∈ hsAll) (hd : y.cls ≠ "java/lang/invoke/MethodHandle" ∧ y.cls ≠ "java/lang/invoke/VarHandle" ∧ (parseMethodDescriptor y.desc).map (fun d => d.parameters.length) = some n) (hn : As.length = n) (hrc : rm.cells = 0) (hrs : rm.slots = 0) (hR : rm.frames + 1 ≤ R.frames ∧ 8 + (maxL + 11) + rm.locals ≤ R.locals) (hst : st = As.reverse ++ rest) (hcat : (rest.map fun v => v.category).sum ≤ 8) (hcs : cells ≤ R.cells ∧ slots ≤ R.slots) (hdg : decode cc pc = .ok (.invokestatic index, 3)) : ∀ (H : Heap) (locs : List Loc) (ls : Array Slot), lv_has ls nL lv → va_P D cl ws H → va_D A ws → va_Run p l e R s m args below meth c H locs cells slots 0 0 (F0 m pc ls st) rest ((va_Qv post (hsB D cl tys (va_A ws H.size)) (va_A ws H.size)) As.toArray) (va_A ws H.size) := fun H locs ls hl hP hD => va_runS h.1 (hM H.size) ⟨callB_of n h.1.2.2.2.2 (hs_goodC hcd) rfl hrc hrs (h.1.2.2.2.2 _ hini) (h.1.2.2.2.2 _ hlk) hd hR, h.1.2.2.2.2 _ hsta⟩ ⟨hs_blind, hs_pre h.2.2.2 h.2.1 hP hD⟩ rfl hn hl.1 hst (lv_room hcat) hdg hcs
theorem hr_SNv {y : MethodName} {rm : Room} {bytes : ByteArray} {maxL index n : Nat} {ret : Option FieldType} {As : List Value} {host : String} {post : va_W → Prop} (h : hsX p m c cc nL s args own D cl tys A H0) (hM : hsN l y (Cond.code y bytes maxL ret :: hsAll) rm D cl tys As ws post) (hlk : (own, index, y, host) ∈ hsNM) (hsta : Cond.static y ∈ hsAll) (hini : Cond.initialized y.cls ∈ hsAll) (hcd : Cond.code y bytes maxL ret ∈ hsAll) (hd : y.cls ≠ "java/lang/invoke/MethodHandle" ∧ y.cls ≠ "java/lang/invoke/VarHandle" ∧ (parseMethodDescriptor y.desc).map (fun d => d.parameters.length) = some n) (hn : As.length = n) (hrc : rm.cells = 0) (hrs : rm.slots = 0) (hR : rm.frames + 1 ≤ R.frames ∧ 8 + (maxL + 11) + rm.locals ≤ R.locals) (hst : st = As.reverse ++ rest) (hcat : (rest.map fun v => v.category).sum ≤ 8) (hcs : cells ≤ R.cells ∧ slots ≤ R.slots) (hdg : decode cc pc = .ok (.invokestatic index, 3)) : ∀ (H : Heap) (locs : List Loc) (ls : Array Slot), lv_has ls nL lv → va_P D cl ws H → va_D A ws → va_Run p l e R s m args below meth c H locs cells slots 0 0 (F0 m pc ls st) rest ((va_Qv post (hsB D cl tys (va_A ws H.size)) (va_A ws H.size)) As.toArray) (va_A ws H.size) := fun H locs ls hl hP hD => va_runSN h.1 (hM H.size) ⟨va_cnB n h.1.2.2.2.2 (hs_goodC hcd) rfl hrc hrs (h.2.2.2.1.2 _ hlk) (h.1.2.2.2.2 _ hini) hd hR, h.1.2.2.2.2 _ hsta, trivial⟩ ⟨hs_blind, hs_pre h.2.2.2 h.2.1 hP hD⟩ rfl hn hl.1 hst (lv_room hcat) hdg hcs
theorem hr_Vv {y : MethodName} {rm : Room} {bytes : ByteArray} {maxL index n : Nat} {ret : Option FieldType} {As : List Value} {post : va_W → Prop} (h : hsX p m c cc nL s args own D cl tys A H0) {b ci : Nat} {fs : List Value} {C : String} {T : u_T} {N : Nat} (q0 : Nat) (hq0 : ws[q0]? = some (b, .inr (ci, fs))) (hcl : cl[ci]? = some (C, T, N)) (hM : hsN l y (Cond.code y bytes maxL ret :: hsAll) rm D cl tys (.ref b :: As) ws post) (hlk : Cond.methodLink own index y ∈ hsAll) (hinst : Cond.instanceMethod y ∈ hsAll) (hsel : Cond.selects C y y ∈ hsAll) (hini : Cond.initialized y.cls ∈ hsAll) (hcd : Cond.code y bytes maxL ret ∈ hsAll) (hd : y.cls ≠ "java/lang/invoke/MethodHandle" ∧ y.cls ≠ "java/lang/invoke/VarHandle" ∧ (parseMethodDescriptor y.desc).map (fun d => d.parameters.length) = some n) (hn : As.length = n) (hrc : rm.cells = 0) (hrs : rm.slots = 0) (hR : rm.frames + 1 ≤ R.frames ∧ 8 + (maxL + 11) + rm.locals ≤ R.locals) (hst : st = As.reverse ++ .ref b :: rest) (hcat : (rest.map fun v => v.category).sum ≤ 8) (hcs : cells ≤ R.cells ∧ slots ≤ R.slots) (hdg : decode cc pc = .ok (.invokevirtual index, 3)) : ∀ (H : Heap) (locs : List Loc) (ls : Array Slot), lv_has ls nL lv → va_P D cl ws H → va_D A ws → va_Run p l e R s m args below meth c H locs cells slots 0 0 (F0 m pc ls st) rest ((va_Qv post (hsB D cl tys (va_A ws H.size)) (va_A ws H.size)) (Value.ref b :: As).toArray) (va_A ws H.size) := fun H locs ls hl hP hD => va_runV h.1 (hM H.size) ⟨callB_of n h.1.2.2.2.2 (hs_goodC hcd) rfl hrc hrs (h.1.2.2.2.2 _ hini) (h.1.2.2.2.2 _ hlk) hd hR, h.1.2.2.2.2 _ hinst, h.1.2.2.2.2 _ hsel⟩ ⟨hs_blind, va_recv h.2.1 hP hcl hq0, hs_pre h.2.2.2 h.2.1 hP hD⟩ rfl hn hl.1 hst (lv_room hcat) hdg hcs
theorem hr_Sr {y : MethodName} {rm : Room} {bytes : ByteArray} {maxL index n : Nat} {ret : Option FieldType} {As : List Value} {post : Nat → va_W → Prop} (h : hsX p m c cc nL s args own D cl tys A H0) (hM : hsQ l y (Cond.code y bytes maxL ret :: hsAll) rm D cl tys As ws post) (hlk : Cond.methodLink own index y ∈ hsAll) (hsta : Cond.static y ∈ hsAll) (hini : Cond.initialized y.cls ∈ hsAll) (hcd : Cond.code y bytes maxL ret ∈ hsAll) (hd : y.cls ≠ "java/lang/invoke/MethodHandle" ∧ y.cls ≠ "java/lang/invoke/VarHandle" ∧ (parseMethodDescriptor y.desc).map (fun d => d.parameters.length) = some n) (hn : As.length = n) (hrc : rm.cells = 0) (hrs : rm.slots = 0) (hR : rm.frames + 1 ≤ R.frames ∧ 8 + (maxL + 11) + rm.locals ≤ R.locals) (hst : st = As.reverse ++ rest) (hcat : (rest.map fun v => v.category).sum ≤ 8) (hcs : cells ≤ R.cells ∧ slots ≤ R.slots) (hdg : decode cc pc = .ok (.invokestatic index, 3)) : ∀ (H : Heap) (locs : List Loc) (ls : Array Slot), lv_has ls nL lv → va_P D cl ws H → va_D A ws → va_Run p l e R s m args below meth c H locs cells slots 0 0 (F0 m pc ls st) rest ((va_Qr (fun _ : va_W => True) (fun w a t => post a w ∧ hsB D cl tys (va_A ws H.size) w t) (va_A ws H.size)) As.toArray) (va_A ws H.size) := fun H locs ls hl hP hD => va_runS h.1 (hM H.size) ⟨callB_of n h.1.2.2.2.2 (hs_goodC hcd) rfl hrc hrs (h.1.2.2.2.2 _ hini) (h.1.2.2.2.2 _ hlk) hd hR, h.1.2.2.2.2 _ hsta⟩ ⟨hs_blind, hs_pre h.2.2.2 h.2.1 hP hD⟩ rfl hn hl.1 hst (lv_room hcat) hdg hcs
theorem hr_SNr {y : MethodName} {rm : Room} {bytes : ByteArray} {maxL index n : Nat} {ret : Option FieldType} {As : List Value} {host : String} {post : Nat → va_W → Prop} (h : hsX p m c cc nL s args own D cl tys A H0) (hM : hsQ l y (Cond.code y bytes maxL ret :: hsAll) rm D cl tys As ws post) (hlk : (own, index, y, host) ∈ hsNM) (hsta : Cond.static y ∈ hsAll) (hini : Cond.initialized y.cls ∈ hsAll) (hcd : Cond.code y bytes maxL ret ∈ hsAll) (hd : y.cls ≠ "java/lang/invoke/MethodHandle" ∧ y.cls ≠ "java/lang/invoke/VarHandle" ∧ (parseMethodDescriptor y.desc).map (fun d => d.parameters.length) = some n) (hn : As.length = n) (hrc : rm.cells = 0) (hrs : rm.slots = 0) (hR : rm.frames + 1 ≤ R.frames ∧ 8 + (maxL + 11) + rm.locals ≤ R.locals) (hst : st = As.reverse ++ rest) (hcat : (rest.map fun v => v.category).sum ≤ 8) (hcs : cells ≤ R.cells ∧ slots ≤ R.slots) (hdg : decode cc pc = .ok (.invokestatic index, 3)) : ∀ (H : Heap) (locs : List Loc) (ls : Array Slot), lv_has ls nL lv → va_P D cl ws H → va_D A ws → va_Run p l e R s m args below meth c H locs cells slots 0 0 (F0 m pc ls st) rest ((va_Qr (fun _ : va_W => True) (fun w a t => post a w ∧ hsB D cl tys (va_A ws H.size) w t) (va_A ws H.size)) As.toArray) (va_A ws H.size) := fun H locs ls hl hP hD => va_runSN h.1 (hM H.size) ⟨va_cnB n h.1.2.2.2.2 (hs_goodC hcd) rfl hrc hrs (h.2.2.2.1.2 _ hlk) (h.1.2.2.2.2 _ hini) hd hR, h.1.2.2.2.2 _ hsta, trivial⟩ ⟨hs_blind, hs_pre h.2.2.2 h.2.1 hP hD⟩ rfl hn hl.1 hst (lv_room hcat) hdg hcs
theorem hr_Vr {y : MethodName} {rm : Room} {bytes : ByteArray} {maxL index n : Nat} {ret : Option FieldType} {As : List Value} {post : Nat → va_W → Prop} (h : hsX p m c cc nL s args own D cl tys A H0) {b ci : Nat} {fs : List Value} {C : String} {T : u_T} {N : Nat} (q0 : Nat) (hq0 : ws[q0]? = some (b, .inr (ci, fs))) (hcl : cl[ci]? = some (C, T, N)) (hM : hsQ l y (Cond.code y bytes maxL ret :: hsAll) rm D cl tys (.ref b :: As) ws post) (hlk : Cond.methodLink own index y ∈ hsAll) (hinst : Cond.instanceMethod y ∈ hsAll) (hsel : Cond.selects C y y ∈ hsAll) (hini : Cond.initialized y.cls ∈ hsAll) (hcd : Cond.code y bytes maxL ret ∈ hsAll) (hd : y.cls ≠ "java/lang/invoke/MethodHandle" ∧ y.cls ≠ "java/lang/invoke/VarHandle" ∧ (parseMethodDescriptor y.desc).map (fun d => d.parameters.length) = some n) (hn : As.length = n) (hrc : rm.cells = 0) (hrs : rm.slots = 0) (hR : rm.frames + 1 ≤ R.frames ∧ 8 + (maxL + 11) + rm.locals ≤ R.locals) (hst : st = As.reverse ++ .ref b :: rest) (hcat : (rest.map fun v => v.category).sum ≤ 8) (hcs : cells ≤ R.cells ∧ slots ≤ R.slots) (hdg : decode cc pc = .ok (.invokevirtual index, 3)) : ∀ (H : Heap) (locs : List Loc) (ls : Array Slot), lv_has ls nL lv → va_P D cl ws H → va_D A ws → va_Run p l e R s m args below meth c H locs cells slots 0 0 (F0 m pc ls st) rest ((va_Qr (fun _ : va_W => True) (fun w a t => post a w ∧ hsB D cl tys (va_A ws H.size) w t) (va_A ws H.size)) (Value.ref b :: As).toArray) (va_A ws H.size) := fun H locs ls hl hP hD => va_runV h.1 (hM H.size) ⟨callB_of n h.1.2.2.2.2 (hs_goodC hcd) rfl hrc hrs (h.1.2.2.2.2 _ hini) (h.1.2.2.2.2 _ hlk) hd hR, h.1.2.2.2.2 _ hinst, h.1.2.2.2.2 _ hsel⟩ ⟨hs_blind, va_recv h.2.1 hP hcl hq0, hs_pre h.2.2.2 h.2.1 hP hD⟩ rfl hn hl.1 hst (lv_room hcat) hdg hcs
theorem hv_callp {v : Int32} {a0 : Array Value} (h : hsX p m c cc nL s args own D cl tys A H0) (hrun : ∀ (H : Heap) (locs : List Loc) (ls : Array Slot), lv_has ls nL lv → va_P D cl ws H → va_D A ws → va_Run p l e R s m args below meth c H locs cells slots 0 0 (F0 m pc ls st) rest ((va_Qi (fun (r : Int32) (w : va_W) => r = v ∧ w = ws') (hsB D cl tys (va_A ws H.size)) (va_A ws H.size)) a0) (va_A ws H.size)) (k : hsV p l e R s m args below meth c Q nL D cl A H0 cells slots (pc + 3) lv ws' (.int v :: rest)) : hsV p l e R s m args below meth c Q nL D cl A H0 cells slots (pc) lv ws (st) := hv_calli h hrun (fun r w hp => by obtain ⟨e1, e2⟩ := hp; rw [e1, e2]; exact k)
theorem hv_callw {a0 : Array Value} (h : hsX p m c cc nL s args own D cl tys A H0) (hrun : ∀ (H : Heap) (locs : List Loc) (ls : Array Slot), lv_has ls nL lv → va_P D cl ws H → va_D A ws → va_Run p l e R s m args below meth c H locs cells slots 0 0 (F0 m pc ls st) rest ((va_Qv (fun (w : va_W) => w = ws') (hsB D cl tys (va_A ws H.size)) (va_A ws H.size)) a0) (va_A ws H.size)) (k : hsV p l e R s m args below meth c Q nL D cl A H0 cells slots (pc + 3) lv ws' (rest)) : hsV p l e R s m args below meth c Q nL D cl A H0 cells slots (pc) lv ws (st) := hv_callv h hrun (fun w hp => by rw [show w = ws' from hp]; exact k)
theorem hv_callq {v : Nat} {a0 : Array Value} (h : hsX p m c cc nL s args own D cl tys A H0) (hrun : ∀ (H : Heap) (locs : List Loc) (ls : Array Slot), lv_has ls nL lv → va_P D cl ws H → va_D A ws → va_Run p l e R s m args below meth c H locs cells slots 0 0 (F0 m pc ls st) rest ((va_Qr (fun _ : va_W => True) (fun w a t => (fun (r : Nat) (w : va_W) => r = v ∧ w = ws') a w ∧ hsB D cl tys (va_A ws H.size) w t) (va_A ws H.size)) a0) (va_A ws H.size)) (k : hsV p l e R s m args below meth c Q nL D cl A H0 cells slots (pc + 3) lv ws' (.ref v :: rest)) : hsV p l e R s m args below meth c Q nL D cl A H0 cells slots (pc) lv ws (st) := hv_callr h hrun (fun r w hp => by obtain ⟨e1, e2⟩ := hp; rw [e1, e2]; exact k)
theorem hv_bif_eq (h : hsX p m c cc nL s args own D cl tys A H0) {b : Bool} {off : Int} (tgt : Nat) (hdg : decode cc pc = .ok (.ifCond .eq off, 3)) (ht : (pc : Int) + off = (tgt : Int)) (kt : b = false → hsV p l e R s m args below meth c Q nL D cl A H0 cells slots (tgt) lv ws (rest)) (kf : b = true → hsV p l e R s m args below meth c Q nL D cl A H0 cells slots (pc + 3) lv ws (rest)) : hsV p l e R s m args below meth c Q nL D cl A H0 cells slots (pc) lv ws (.int (hx_b b) :: rest) := hv_if_eq h tgt hdg ht (fun q => kt (hx_b0.mp q)) (fun q => kf (hx_bn0.mp q))
theorem hv_bif_ne (h : hsX p m c cc nL s args own D cl tys A H0) {b : Bool} {off : Int} (tgt : Nat) (hdg : decode cc pc = .ok (.ifCond .ne off, 3)) (ht : (pc : Int) + off = (tgt : Int)) (kt : b = true → hsV p l e R s m args below meth c Q nL D cl A H0 cells slots (tgt) lv ws (rest)) (kf : b = false → hsV p l e R s m args below meth c Q nL D cl A H0 cells slots (pc + 3) lv ws (rest)) : hsV p l e R s m args below meth c Q nL D cl A H0 cells slots (pc) lv ws (.int (hx_b b) :: rest) := hv_if_ne h tgt hdg ht (fun q => kt (hx_bn0.mp q)) (fun q => kf (hx_b0.mp q))
theorem hv_sel (h : hsX p m c cc nL s args own D cl tys A H0) {b : Bool} {n1 n2 o1 o2 : Int} (x y : Int32) (d1 : decode cc pc = .ok (.ifCond .eq o1, 3)) (t1 : (pc : Int) + o1 = ((pc + 7 : Nat) : Int)) (d2 : decode cc (pc + 3) = .ok (.iconst n1, 1)) (hx : Int32.ofInt n1 = x) (d3 : decode cc (pc + 4) = .ok (.goto o2, 3)) (t2 : ((pc + 4 : Nat) : Int) + o2 = ((pc + 8 : Nat) : Int)) (d4 : decode cc (pc + 7) = .ok (.iconst n2, 1)) (hy : Int32.ofInt n2 = y) (k : hsV p l e R s m args below meth c Q nL D cl A H0 cells slots (pc + 8) lv ws (.int (hx_s b x y) :: rest)) : hsV p l e R s m args below meth c Q nL D cl A H0 cells slots (pc) lv ws (.int (hx_b b) :: rest) := hv_bif_eq h (pc + 7) d1 t1 (fun q => by subst q; exact hv_iconst h y d4 hy k) (fun q => by subst q; exact hv_iconst h x d2 hx (hv_goto h (pc + 8) d3 t2 k))
theorem hs_nm {x : Int32} (k : ∀ y : Int32, y = x → hsV p l e R s m args below meth c Q nL D cl A H0 cells slots (pc) lv ws (.int y :: rest)) : hsV p l e R s m args below meth c Q nL D cl A H0 cells slots (pc) lv ws (.int x :: rest) := k x rfl
end HsRows
end
