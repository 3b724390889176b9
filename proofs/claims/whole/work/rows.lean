section
-- ===== PART A: goes FIRST, ahead of the names: the tables' words, and 'selects' of the private methods out of them =====
/-- a private method of a class that the tables say can be made, by its rows of tables_1 -/
def lw_okq (q : MethodName × Nat) : Prop := (q.1.cls ≠ "java/lang/invoke/MethodHandle" ∧ q.1.cls ≠ "java/lang/invoke/VarHandle") ∧ Cond.instantiable q.1.cls q.2 ∈ tables_1 ∧ Cond.privateMethod q.1 ∈ tables_1 ∧ Cond.instanceMethod q.1 ∈ tables_1
theorem lw_p0 : lw_okq (⟨"HewnSolids", "takeStep", "(I)I"⟩, 5) := ⟨⟨by decide +kernel, by decide +kernel⟩, List.mem_of_getElem? (i := 8) (by decide +kernel), List.mem_of_getElem? (i := 105) (by decide +kernel), List.mem_of_getElem? (i := 106) (by decide +kernel)⟩
theorem lw_p1 : lw_okq (⟨"HewnSolids$Steps", "exchange", "([LHewnSolids$Cells;I)I"⟩, 5) := ⟨⟨by decide +kernel, by decide +kernel⟩, List.mem_of_getElem? (i := 29) (by decide +kernel), List.mem_of_getElem? (i := 217) (by decide +kernel), List.mem_of_getElem? (i := 218) (by decide +kernel)⟩
theorem lw_p2 : lw_okq (⟨"HewnSolids$Flood", "countLeft", "()I"⟩, 3) := ⟨⟨by decide +kernel, by decide +kernel⟩, List.mem_of_getElem? (i := 53) (by decide +kernel), List.mem_of_getElem? (i := 264) (by decide +kernel), List.mem_of_getElem? (i := 265) (by decide +kernel)⟩
theorem lw_p3 : lw_okq (⟨"HewnSolids$Flood", "countFrom", "(II)I"⟩, 3) := ⟨⟨by decide +kernel, by decide +kernel⟩, List.mem_of_getElem? (i := 53) (by decide +kernel), List.mem_of_getElem? (i := 268) (by decide +kernel), List.mem_of_getElem? (i := 269) (by decide +kernel)⟩
theorem lw_p4 : lw_okq (⟨"HewnSolids$Flood", "take", "(III)V"⟩, 3) := ⟨⟨by decide +kernel, by decide +kernel⟩, List.mem_of_getElem? (i := 53) (by decide +kernel), List.mem_of_getElem? (i := 272) (by decide +kernel), List.mem_of_getElem? (i := 273) (by decide +kernel)⟩
theorem lw_p5 : lw_okq (⟨"HewnSolids$Flood", "spread", "()V"⟩, 3) := ⟨⟨by decide +kernel, by decide +kernel⟩, List.mem_of_getElem? (i := 53) (by decide +kernel), List.mem_of_getElem? (i := 277) (by decide +kernel), List.mem_of_getElem? (i := 278) (by decide +kernel)⟩
theorem lw_p6 : lw_okq (⟨"HewnSolids$Flood", "dropFromBorder", "()V"⟩, 3) := ⟨⟨by decide +kernel, by decide +kernel⟩, List.mem_of_getElem? (i := 53) (by decide +kernel), List.mem_of_getElem? (i := 289) (by decide +kernel), List.mem_of_getElem? (i := 290) (by decide +kernel)⟩
theorem lw_p7 : lw_okq (⟨"HewnSolids$Cells", "countPair", "(III)I"⟩, 1) := ⟨⟨by decide +kernel, by decide +kernel⟩, List.mem_of_getElem? (i := 17) (by decide +kernel), List.mem_of_getElem? (i := 313) (by decide +kernel), List.mem_of_getElem? (i := 314) (by decide +kernel)⟩
theorem lw_p8 : lw_okq (⟨"HewnSolidsModel", "copy", "(II)V"⟩, 8) := ⟨⟨by decide +kernel, by decide +kernel⟩, List.mem_of_getElem? (i := 364) (by decide +kernel), List.mem_of_getElem? (i := 399) (by decide +kernel), List.mem_of_getElem? (i := 400) (by decide +kernel)⟩
theorem lw_p9 : lw_okq (⟨"HewnSolidsModel", "clearDraft", "()V"⟩, 8) := ⟨⟨by decide +kernel, by decide +kernel⟩, List.mem_of_getElem? (i := 364) (by decide +kernel), List.mem_of_getElem? (i := 417) (by decide +kernel), List.mem_of_getElem? (i := 418) (by decide +kernel)⟩
theorem lw_p10 : lw_okq (⟨"HewnSolidsModel", "put", "(III)V"⟩, 8) := ⟨⟨by decide +kernel, by decide +kernel⟩, List.mem_of_getElem? (i := 364) (by decide +kernel), List.mem_of_getElem? (i := 421) (by decide +kernel), List.mem_of_getElem? (i := 422) (by decide +kernel)⟩
theorem lw_p11 : lw_okq (⟨"HewnSolidsModel", "step", "(I)I"⟩, 8) := ⟨⟨by decide +kernel, by decide +kernel⟩, List.mem_of_getElem? (i := 364) (by decide +kernel), List.mem_of_getElem? (i := 425) (by decide +kernel), List.mem_of_getElem? (i := 426) (by decide +kernel)⟩
theorem lw_p12 : lw_okq (⟨"HewnSolidsModel", "count", "(I)I"⟩, 8) := ⟨⟨by decide +kernel, by decide +kernel⟩, List.mem_of_getElem? (i := 364) (by decide +kernel), List.mem_of_getElem? (i := 429) (by decide +kernel), List.mem_of_getElem? (i := 430) (by decide +kernel)⟩
theorem lw_p13 : lw_okq (⟨"HewnSolidsModel", "has", "(IIII)Z"⟩, 8) := ⟨⟨by decide +kernel, by decide +kernel⟩, List.mem_of_getElem? (i := 364) (by decide +kernel), List.mem_of_getElem? (i := 437) (by decide +kernel), List.mem_of_getElem? (i := 438) (by decide +kernel)⟩
theorem lw_p14 : lw_okq (⟨"HewnSolidsModel", "hasBy", "(IIIII)Z"⟩, 8) := ⟨⟨by decide +kernel, by decide +kernel⟩, List.mem_of_getElem? (i := 364) (by decide +kernel), List.mem_of_getElem? (i := 463) (by decide +kernel), List.mem_of_getElem? (i := 464) (by decide +kernel)⟩
theorem lw_p15 : lw_okq (⟨"HewnSolidsModel", "isEdge", "(IIIII)Z"⟩, 8) := ⟨⟨by decide +kernel, by decide +kernel⟩, List.mem_of_getElem? (i := 364) (by decide +kernel), List.mem_of_getElem? (i := 479) (by decide +kernel), List.mem_of_getElem? (i := 480) (by decide +kernel)⟩
def lw_privs_1 : List (MethodName × Nat) := [(⟨"HewnSolids", "takeStep", "(I)I"⟩, 5), (⟨"HewnSolids$Steps", "exchange", "([LHewnSolids$Cells;I)I"⟩, 5), (⟨"HewnSolids$Flood", "countLeft", "()I"⟩, 3), (⟨"HewnSolids$Flood", "countFrom", "(II)I"⟩, 3), (⟨"HewnSolids$Flood", "take", "(III)V"⟩, 3), (⟨"HewnSolids$Flood", "spread", "()V"⟩, 3), (⟨"HewnSolids$Flood", "dropFromBorder", "()V"⟩, 3), (⟨"HewnSolids$Cells", "countPair", "(III)I"⟩, 1), (⟨"HewnSolidsModel", "copy", "(II)V"⟩, 8), (⟨"HewnSolidsModel", "clearDraft", "()V"⟩, 8), (⟨"HewnSolidsModel", "put", "(III)V"⟩, 8), (⟨"HewnSolidsModel", "step", "(I)I"⟩, 8), (⟨"HewnSolidsModel", "count", "(I)I"⟩, 8), (⟨"HewnSolidsModel", "has", "(IIII)Z"⟩, 8), (⟨"HewnSolidsModel", "hasBy", "(IIIII)Z"⟩, 8), (⟨"HewnSolidsModel", "isEdge", "(IIIII)Z"⟩, 8)]
theorem lw_r1 : ∀ q ∈ lw_privs_1, lw_okq q := List.forall_mem_cons.mpr ⟨lw_p0, List.forall_mem_cons.mpr ⟨lw_p1, List.forall_mem_cons.mpr ⟨lw_p2, List.forall_mem_cons.mpr ⟨lw_p3, List.forall_mem_cons.mpr ⟨lw_p4, List.forall_mem_cons.mpr ⟨lw_p5, List.forall_mem_cons.mpr ⟨lw_p6, List.forall_mem_cons.mpr ⟨lw_p7, List.forall_mem_cons.mpr ⟨lw_p8, List.forall_mem_cons.mpr ⟨lw_p9, List.forall_mem_cons.mpr ⟨lw_p10, List.forall_mem_cons.mpr ⟨lw_p11, List.forall_mem_cons.mpr ⟨lw_p12, List.forall_mem_cons.mpr ⟨lw_p13, List.forall_mem_cons.mpr ⟨lw_p14, List.forall_mem_cons.mpr ⟨lw_p15, fun _ h => absurd h List.not_mem_nil⟩⟩⟩⟩⟩⟩⟩⟩⟩⟩⟩⟩⟩⟩⟩⟩
theorem lw_p16 : lw_okq (⟨"HewnSolidsModel", "sets", "(IZ)I"⟩, 8) := ⟨⟨by decide +kernel, by decide +kernel⟩, List.mem_of_getElem? (i := 364) (by decide +kernel), List.mem_of_getElem? (i := 487) (by decide +kernel), List.mem_of_getElem? (i := 488) (by decide +kernel)⟩
theorem lw_p17 : lw_okq (⟨"HewnSolidsModel", "see", "(IZIII)V"⟩, 8) := ⟨⟨by decide +kernel, by decide +kernel⟩, List.mem_of_getElem? (i := 364) (by decide +kernel), List.mem_of_getElem? (i := 491) (by decide +kernel), List.mem_of_getElem? (i := 492) (by decide +kernel)⟩
theorem lw_p18 : lw_okq (⟨"HewnSolidsModel", "spread", "(IZ)V"⟩, 8) := ⟨⟨by decide +kernel, by decide +kernel⟩, List.mem_of_getElem? (i := 364) (by decide +kernel), List.mem_of_getElem? (i := 495) (by decide +kernel), List.mem_of_getElem? (i := 496) (by decide +kernel)⟩
theorem lw_p19 : lw_okq (⟨"HewnSolidsModel", "countAt", "(III)I"⟩, 8) := ⟨⟨by decide +kernel, by decide +kernel⟩, List.mem_of_getElem? (i := 364) (by decide +kernel), List.mem_of_getElem? (i := 510) (by decide +kernel), List.mem_of_getElem? (i := 511) (by decide +kernel)⟩
theorem lw_p20 : lw_okq (⟨"HewnSolidsModel", "depthOf", "(IIZII)I"⟩, 8) := ⟨⟨by decide +kernel, by decide +kernel⟩, List.mem_of_getElem? (i := 364) (by decide +kernel), List.mem_of_getElem? (i := 534) (by decide +kernel), List.mem_of_getElem? (i := 535) (by decide +kernel)⟩
theorem lw_p21 : lw_okq (⟨"HewnSolidsModel", "strokeOf", "(IIZIII)I"⟩, 8) := ⟨⟨by decide +kernel, by decide +kernel⟩, List.mem_of_getElem? (i := 364) (by decide +kernel), List.mem_of_getElem? (i := 542) (by decide +kernel), List.mem_of_getElem? (i := 543) (by decide +kernel)⟩
theorem lw_p22 : lw_okq (⟨"HewnSolidsModel", "isEdgeAt", "(IIIIII)Z"⟩, 8) := ⟨⟨by decide +kernel, by decide +kernel⟩, List.mem_of_getElem? (i := 364) (by decide +kernel), List.mem_of_getElem? (i := 546) (by decide +kernel), List.mem_of_getElem? (i := 547) (by decide +kernel)⟩
def lw_privs_2 : List (MethodName × Nat) := [(⟨"HewnSolidsModel", "sets", "(IZ)I"⟩, 8), (⟨"HewnSolidsModel", "see", "(IZIII)V"⟩, 8), (⟨"HewnSolidsModel", "spread", "(IZ)V"⟩, 8), (⟨"HewnSolidsModel", "countAt", "(III)I"⟩, 8), (⟨"HewnSolidsModel", "depthOf", "(IIZII)I"⟩, 8), (⟨"HewnSolidsModel", "strokeOf", "(IIZIII)I"⟩, 8), (⟨"HewnSolidsModel", "isEdgeAt", "(IIIIII)Z"⟩, 8)]
theorem lw_r2 : ∀ q ∈ lw_privs_2, lw_okq q := List.forall_mem_cons.mpr ⟨lw_p16, List.forall_mem_cons.mpr ⟨lw_p17, List.forall_mem_cons.mpr ⟨lw_p18, List.forall_mem_cons.mpr ⟨lw_p19, List.forall_mem_cons.mpr ⟨lw_p20, List.forall_mem_cons.mpr ⟨lw_p21, List.forall_mem_cons.mpr ⟨lw_p22, fun _ h => absurd h List.not_mem_nil⟩⟩⟩⟩⟩⟩⟩
def lw_privs : List (MethodName × Nat) := lw_privs_1 ++ (lw_privs_2)
def lw_tbl : List Cond := k2_sels lw_privs ++ tables_1
theorem lw_privs_ok : ∀ q ∈ lw_privs, lw_okq q := by
  show ∀ q ∈ lw_privs_1 ++ (lw_privs_2), lw_okq q
  exact List.forall_mem_append.mpr ⟨lw_r1, lw_r2⟩
def RX0 : String := "HewnSolids"
def TX0 : u_T := fun k => match k with
  | 0 => ("HewnSolids", "solids", "[LHewnSolids$Cells;", true)
  | 1 => ("HewnSolids", "steps", "LHewnSolids$Steps;", true)
  | 2 => ("HewnSolids", "view", "LHewnSolids$Cells;", true)
  | 3 => ("HewnSolids", "flood", "LHewnSolids$Flood;", true)
  | _ => ("HewnSolids", "outcome", "LHewnSolids$Cells;", false)
def tyX0 : Nat → FieldType := fun k => match k with
  | 0 => .array (.object "HewnSolids$Cells")
  | 1 => .object "HewnSolids$Steps"
  | 2 => .object "HewnSolids$Cells"
  | 3 => .object "HewnSolids$Flood"
  | _ => .object "HewnSolids$Cells"
theorem nX0 : ∀ a, a < 5 → ∀ b, b < 5 → a ≠ b → (TX0 a).2.1 ≠ (TX0 b).2.1 := by decide +kernel
theorem tyX0_ok : ∀ k, k < 5 → parseFieldDescriptor (TX0 k).2.2.1 = some (tyX0 k) := by decide +kernel
def RX1 : String := "HewnSolids$Cells"
def TX1 : u_T := fun k => match k with
  | _ => ("HewnSolids$Cells", "columns", "[I", true)
def tyX1 : Nat → FieldType := fun k => match k with
  | _ => .array .int
theorem nX1 : ∀ a, a < 1 → ∀ b, b < 1 → a ≠ b → (TX1 a).2.1 ≠ (TX1 b).2.1 := by decide +kernel
theorem tyX1_ok : ∀ k, k < 1 → parseFieldDescriptor (TX1 k).2.2.1 = some (tyX1 k) := by decide +kernel
def RX2 : String := "HewnSolids$Steps"
def TX2 : u_T := fun k => match k with
  | 0 => ("HewnSolids$Steps", "numbers", "[I", true)
  | 1 => ("HewnSolids$Steps", "others", "[LHewnSolids$Cells;", true)
  | 2 => ("HewnSolids$Steps", "oldest", "I", false)
  | 3 => ("HewnSolids$Steps", "done", "I", false)
  | _ => ("HewnSolids$Steps", "takenBack", "I", false)
def tyX2 : Nat → FieldType := fun k => match k with
  | 0 => .array .int
  | 1 => .array (.object "HewnSolids$Cells")
  | 2 => .int
  | 3 => .int
  | _ => .int
theorem nX2 : ∀ a, a < 5 → ∀ b, b < 5 → a ≠ b → (TX2 a).2.1 ≠ (TX2 b).2.1 := by decide +kernel
theorem tyX2_ok : ∀ k, k < 5 → parseFieldDescriptor (TX2 k).2.2.1 = some (tyX2 k) := by decide +kernel
def RX3 : String := "HewnSolids$Flood"
def TX3 : u_T := fun k => match k with
  | 0 => ("HewnSolids$Flood", "left", "[I", true)
  | 1 => ("HewnSolids$Flood", "taken", "[I", true)
  | _ => ("HewnSolids$Flood", "end", "I", false)
def tyX3 : Nat → FieldType := fun k => match k with
  | 0 => .array .int
  | 1 => .array .int
  | _ => .int
theorem nX3 : ∀ a, a < 3 → ∀ b, b < 3 → a ≠ b → (TX3 a).2.1 ≠ (TX3 b).2.1 := by decide +kernel
theorem tyX3_ok : ∀ k, k < 3 → parseFieldDescriptor (TX3 k).2.2.1 = some (tyX3 k) := by decide +kernel
def RX4 : String := "HewnSolidsModel"
def TX4 : u_T := fun k => match k with
  | 0 => ("HewnSolidsModel", "bits", "[I", true)
  | 1 => ("HewnSolidsModel", "done", "I", false)
  | 2 => ("HewnSolidsModel", "all", "I", false)
  | 3 => ("HewnSolidsModel", "whose", "[I", true)
  | 4 => ("HewnSolidsModel", "seen", "[I", true)
  | 5 => ("HewnSolidsModel", "top", "I", false)
  | 6 => ("HewnSolidsModel", "pile", "[I", true)
  | _ => ("HewnSolidsModel", "border", "Z", false)
def tyX4 : Nat → FieldType := fun k => match k with
  | 0 => .array .int
  | 1 => .int
  | 2 => .int
  | 3 => .array .int
  | 4 => .array .int
  | 5 => .int
  | 6 => .array .int
  | _ => .boolean
theorem nX4 : ∀ a, a < 8 → ∀ b, b < 8 → a ≠ b → (TX4 a).2.1 ≠ (TX4 b).2.1 := by decide +kernel
theorem tyX4_ok : ∀ k, k < 8 → parseFieldDescriptor (TX4 k).2.2.1 = some (tyX4 k) := by decide +kernel
def RX5 : String := "java/lang/Integer"
def RXL : String := "HewnSolidsLaw"
abbrev vwCl : List vw_C := [(RX0, TX0, 5), (RX1, TX1, 1), (RX2, TX2, 5), (RX3, TX3, 3), (RX4, TX4, 8)]
abbrev hsHi : Nat := 0
abbrev hsCi : Nat := 1
abbrev hsSi : Nat := 2
abbrev hsFi : Nat := 3
abbrev hsMi : Nat := 4
abbrev hsT (cI cC : ClassId) : List (ClassId × FieldType) := [(cI, .int), (cC, .object "HewnSolids$Cells")]
def hsAll : List Cond := lw_tbl.filter goodWord
theorem hs_all {w : Cond} (h : w ∈ hsAll) : w ∈ lw_tbl := (List.mem_filter.mp h).1
theorem hs_all_good {w : Cond} (h : w ∈ hsAll) : (w.onTables && w.keeps) = true ∨ ∃ ty, w = .arrayClass ty := good_of_word (List.mem_filter.mp h).2
theorem hs_in {w : Cond} (i : Nat) (h : lw_tbl[i]? = some w) (hg : goodWord w = true) : w ∈ hsAll := List.mem_filter.mpr ⟨List.mem_of_getElem? h, hg⟩
abbrev cX0_init : ByteArray := prog_1_method_1_code
def yX0_init : MethodName := ⟨RX0, "<init>", "()V"⟩
abbrev wsX0_init : List Cond := Cond.code yX0_init cX0_init 2 none :: hsAll
abbrev cX1_init : ByteArray := prog_2_method_1_code
def yX1_init : MethodName := ⟨RX1, "<init>", "()V"⟩
abbrev wsX1_init : List Cond := Cond.code yX1_init cX1_init 1 none :: hsAll
abbrev cX2_init : ByteArray := prog_4_method_1_code
def yX2_init : MethodName := ⟨RX2, "<init>", "()V"⟩
abbrev wsX2_init : List Cond := Cond.code yX2_init cX2_init 2 none :: hsAll
abbrev cX3_init : ByteArray := prog_3_method_1_code
def yX3_init : MethodName := ⟨RX3, "<init>", "()V"⟩
abbrev wsX3_init : List Cond := Cond.code yX3_init cX3_init 1 none :: hsAll
abbrev cX0_box : ByteArray := prog_1_method_2_code
def yX0_box : MethodName := ⟨RX0, "box", "(IIIIIII)I"⟩
abbrev wsX0_box : List Cond := Cond.code yX0_box cX0_box 8 (some .int) :: hsAll
abbrev cX0_isSolid : ByteArray := prog_1_method_24_code
def yX0_isSolid : MethodName := ⟨RX0, "isSolid", "(I)Z"⟩
abbrev wsX0_isSolid : List Cond := Cond.code yX0_isSolid cX0_isSolid 1 (some .boolean) :: hsAll
abbrev cX0_isStretch : ByteArray := prog_1_method_28_code
def yX0_isStretch : MethodName := ⟨RX0, "isStretch", "(II)Z"⟩
abbrev wsX0_isStretch : List Cond := Cond.code yX0_isStretch cX0_isStretch 2 (some .boolean) :: hsAll
abbrev cX0_isCoordinate : ByteArray := prog_1_method_26_code
def yX0_isCoordinate : MethodName := ⟨RX0, "isCoordinate", "(I)Z"⟩
abbrev wsX0_isCoordinate : List Cond := Cond.code yX0_isCoordinate cX0_isCoordinate 1 (some .boolean) :: hsAll
abbrev cX1_becomeBox : ByteArray := prog_2_method_5_code
def yX1_becomeBox : MethodName := ⟨RX1, "becomeBox", "(IIIIII)V"⟩
abbrev wsX1_becomeBox : List Cond := Cond.code yX1_becomeBox cX1_becomeBox 11 none :: hsAll
abbrev cX1_spanOf : ByteArray := prog_2_method_20_code
def yX1_spanOf : MethodName := ⟨RX1, "spanOf", "(II)I"⟩
abbrev wsX1_spanOf : List Cond := Cond.code yX1_spanOf cX1_spanOf 2 (some .int) :: hsAll
abbrev cX0_takeStep : ByteArray := prog_1_method_23_code
def yX0_takeStep : MethodName := ⟨RX0, "takeStep", "(I)I"⟩
abbrev wsX0_takeStep : List Cond := Cond.code yX0_takeStep cX0_takeStep 3 (some .int) :: hsAll
abbrev cX2_keep : ByteArray := prog_4_method_2_code
def yX2_keep : MethodName := ⟨RX2, "keep", "(ILHewnSolids$Cells;)LHewnSolids$Cells;"⟩
abbrev wsX2_keep : List Cond := Cond.code yX2_keep cX2_keep 5 (some (.object "HewnSolids$Cells")) :: hsAll
abbrev cX1_countCells : ByteArray := prog_2_method_11_code
def yX1_countCells : MethodName := ⟨RX1, "countCells", "()I"⟩
abbrev wsX1_countCells : List Cond := Cond.code yX1_countCells cX1_countCells 3 (some .int) :: hsAll
abbrev cX5_bitCount : ByteArray := prog_7_method_49_code
def yX5_bitCount : MethodName := ⟨RX5, "bitCount", "(I)I"⟩
abbrev wsX5_bitCount : List Cond := Cond.code yX5_bitCount cX5_bitCount 1 (some .int) :: hsAll
abbrev cX0_join : ByteArray := prog_1_method_3_code
def yX0_join : MethodName := ⟨RX0, "join", "(IIII)I"⟩
abbrev wsX0_join : List Cond := Cond.code yX0_join cX0_join 5 (some .int) :: hsAll
abbrev cX1_becomeJoined : ByteArray := prog_2_method_6_code
def yX1_becomeJoined : MethodName := ⟨RX1, "becomeJoined", "(LHewnSolids$Cells;LHewnSolids$Cells;I)V"⟩
abbrev wsX1_becomeJoined : List Cond := Cond.code yX1_becomeJoined cX1_becomeJoined 5 none :: hsAll
abbrev cX1_joined : ByteArray := prog_2_method_21_code
def yX1_joined : MethodName := ⟨RX1, "joined", "(III)I"⟩
abbrev wsX1_joined : List Cond := Cond.code yX1_joined cX1_joined 3 (some .int) :: hsAll
abbrev cX0_turn : ByteArray := prog_1_method_4_code
def yX0_turn : MethodName := ⟨RX0, "turn", "(II)I"⟩
abbrev wsX0_turn : List Cond := Cond.code yX0_turn cX0_turn 3 (some .int) :: hsAll
abbrev cX0_isAxis : ByteArray := prog_1_method_25_code
def yX0_isAxis : MethodName := ⟨RX0, "isAxis", "(I)Z"⟩
abbrev wsX0_isAxis : List Cond := Cond.code yX0_isAxis cX0_isAxis 1 (some .boolean) :: hsAll
abbrev cX1_becomeTurned : ByteArray := prog_2_method_7_code
def yX1_becomeTurned : MethodName := ⟨RX1, "becomeTurned", "(LHewnSolids$Cells;I)V"⟩
abbrev wsX1_becomeTurned : List Cond := Cond.code yX1_becomeTurned cX1_becomeTurned 5 none :: hsAll
abbrev cX1_turnedColumn : ByteArray := prog_2_method_22_code
def yX1_turnedColumn : MethodName := ⟨RX1, "turnedColumn", "(LHewnSolids$Cells;III)I"⟩
abbrev wsX1_turnedColumn : List Cond := Cond.code yX1_turnedColumn cX1_turnedColumn 4 (some .int) :: hsAll
abbrev cX1_columnAlong : ByteArray := prog_2_method_3_code
def yX1_columnAlong : MethodName := ⟨RX1, "columnAlong", "(III)I"⟩
abbrev wsX1_columnAlong : List Cond := Cond.code yX1_columnAlong cX1_columnAlong 7 (some .int) :: hsAll
abbrev cX1_column : ByteArray := prog_2_method_2_code
def yX1_column : MethodName := ⟨RX1, "column", "(II)I"⟩
abbrev wsX1_column : List Cond := Cond.code yX1_column cX1_column 3 (some .int) :: hsAll
abbrev cX1_reversed : ByteArray := prog_2_method_24_code
def yX1_reversed : MethodName := ⟨RX1, "reversed", "(I)I"⟩
abbrev wsX1_reversed : List Cond := Cond.code yX1_reversed cX1_reversed 1 (some .int) :: hsAll
abbrev cX5_reverse : ByteArray := prog_7_method_52_code
def yX5_reverse : MethodName := ⟨RX5, "reverse", "(I)I"⟩
abbrev wsX5_reverse : List Cond := Cond.code yX5_reverse cX5_reverse 1 (some .int) :: hsAll
abbrev cX5_reverseBytes : ByteArray := prog_7_method_57_code
def yX5_reverseBytes : MethodName := ⟨RX5, "reverseBytes", "(I)I"⟩
abbrev wsX5_reverseBytes : List Cond := Cond.code yX5_reverseBytes cX5_reverseBytes 1 (some .int) :: hsAll
abbrev cX0_mirror : ByteArray := prog_1_method_5_code
def yX0_mirror : MethodName := ⟨RX0, "mirror", "(II)I"⟩
abbrev wsX0_mirror : List Cond := Cond.code yX0_mirror cX0_mirror 3 (some .int) :: hsAll
abbrev cX1_becomeMirrored : ByteArray := prog_2_method_8_code
def yX1_becomeMirrored : MethodName := ⟨RX1, "becomeMirrored", "(LHewnSolids$Cells;I)V"⟩
abbrev wsX1_becomeMirrored : List Cond := Cond.code yX1_becomeMirrored cX1_becomeMirrored 5 none :: hsAll
abbrev cX1_mirroredColumn : ByteArray := prog_2_method_23_code
def yX1_mirroredColumn : MethodName := ⟨RX1, "mirroredColumn", "(LHewnSolids$Cells;III)I"⟩
abbrev wsX1_mirroredColumn : List Cond := Cond.code yX1_mirroredColumn cX1_mirroredColumn 4 (some .int) :: hsAll
abbrev cX0_shift : ByteArray := prog_1_method_6_code
def yX0_shift : MethodName := ⟨RX0, "shift", "(IIII)I"⟩
abbrev wsX0_shift : List Cond := Cond.code yX0_shift cX0_shift 6 (some .int) :: hsAll
abbrev cX0_wouldLeave : ByteArray := prog_1_method_30_code
def yX0_wouldLeave : MethodName := ⟨RX0, "wouldLeave", "(LHewnSolids$Cells;II)Z"⟩
abbrev wsX0_wouldLeave : List Cond := Cond.code yX0_wouldLeave cX0_wouldLeave 4 (some .boolean) :: hsAll
abbrev cX1_leastAlong : ByteArray := prog_2_method_13_code
def yX1_leastAlong : MethodName := ⟨RX1, "leastAlong", "(I)I"⟩
abbrev wsX1_leastAlong : List Cond := Cond.code yX1_leastAlong cX1_leastAlong 3 (some .int) :: hsAll
abbrev cX1_countLayer : ByteArray := prog_2_method_12_code
def yX1_countLayer : MethodName := ⟨RX1, "countLayer", "(II)I"⟩
abbrev wsX1_countLayer : List Cond := Cond.code yX1_countLayer cX1_countLayer 5 (some .int) :: hsAll
abbrev cX1_greatestAlong : ByteArray := prog_2_method_14_code
def yX1_greatestAlong : MethodName := ⟨RX1, "greatestAlong", "(I)I"⟩
abbrev wsX1_greatestAlong : List Cond := Cond.code yX1_greatestAlong cX1_greatestAlong 3 (some .int) :: hsAll
abbrev cX1_becomeShifted : ByteArray := prog_2_method_9_code
def yX1_becomeShifted : MethodName := ⟨RX1, "becomeShifted", "(LHewnSolids$Cells;III)V"⟩
abbrev wsX1_becomeShifted : List Cond := Cond.code yX1_becomeShifted cX1_becomeShifted 8 none :: hsAll
abbrev cX0_sweep : ByteArray := prog_1_method_7_code
def yX0_sweep : MethodName := ⟨RX0, "sweep", "(IIIIII)I"⟩
abbrev wsX0_sweep : List Cond := Cond.code yX0_sweep cX0_sweep 7 (some .int) :: hsAll
abbrev cX1_becomeSwept : ByteArray := prog_2_method_10_code
def yX1_becomeSwept : MethodName := ⟨RX1, "becomeSwept", "(LHewnSolids$Cells;IIII)V"⟩
abbrev wsX1_becomeSwept : List Cond := Cond.code yX1_becomeSwept cX1_becomeSwept 10 none :: hsAll
abbrev cX0_undo : ByteArray := prog_1_method_8_code
def yX0_undo : MethodName := ⟨RX0, "undo", "()I"⟩
abbrev wsX0_undo : List Cond := Cond.code yX0_undo cX0_undo 1 (some .int) :: hsAll
abbrev cX2_takeBack : ByteArray := prog_4_method_3_code
def yX2_takeBack : MethodName := ⟨RX2, "takeBack", "([LHewnSolids$Cells;)I"⟩
abbrev wsX2_takeBack : List Cond := Cond.code yX2_takeBack cX2_takeBack 2 (some .int) :: hsAll
abbrev cX2_exchange : ByteArray := prog_4_method_5_code
def yX2_exchange : MethodName := ⟨RX2, "exchange", "([LHewnSolids$Cells;I)I"⟩
abbrev wsX2_exchange : List Cond := Cond.code yX2_exchange cX2_exchange 5 (some .int) :: hsAll
abbrev cX0_redo : ByteArray := prog_1_method_9_code
def yX0_redo : MethodName := ⟨RX0, "redo", "()I"⟩
abbrev wsX0_redo : List Cond := Cond.code yX0_redo cX0_redo 1 (some .int) :: hsAll
abbrev cX2_doAgain : ByteArray := prog_4_method_4_code
def yX2_doAgain : MethodName := ⟨RX2, "doAgain", "([LHewnSolids$Cells;)I"⟩
abbrev wsX2_doAgain : List Cond := Cond.code yX2_doAgain cX2_doAgain 3 (some .int) :: hsAll
abbrev cX0_volume : ByteArray := prog_1_method_10_code
def yX0_volume : MethodName := ⟨RX0, "volume", "(I)I"⟩
abbrev wsX0_volume : List Cond := Cond.code yX0_volume cX0_volume 2 (some .int) :: hsAll
abbrev cX0_sides : ByteArray := prog_1_method_11_code
def yX0_sides : MethodName := ⟨RX0, "sides", "(I)I"⟩
abbrev wsX0_sides : List Cond := Cond.code yX0_sides cX0_sides 2 (some .int) :: hsAll
abbrev cX1_countSides : ByteArray := prog_2_method_15_code
def yX1_countSides : MethodName := ⟨RX1, "countSides", "()I"⟩
abbrev wsX1_countSides : List Cond := Cond.code yX1_countSides cX1_countSides 5 (some .int) :: hsAll
abbrev cX0_edges : ByteArray := prog_1_method_12_code
def yX0_edges : MethodName := ⟨RX0, "edges", "(I)I"⟩
abbrev wsX0_edges : List Cond := Cond.code yX0_edges cX0_edges 2 (some .int) :: hsAll
abbrev cX1_countEdges : ByteArray := prog_2_method_16_code
def yX1_countEdges : MethodName := ⟨RX1, "countEdges", "()I"⟩
abbrev wsX1_countEdges : List Cond := Cond.code yX1_countEdges cX1_countEdges 8 (some .int) :: hsAll
abbrev cX0_edgesBetween : ByteArray := prog_1_method_33_code
def yX0_edgesBetween : MethodName := ⟨RX0, "edgesBetween", "(II)I"⟩
abbrev wsX0_edgesBetween : List Cond := Cond.code yX0_edgesBetween cX0_edgesBetween 2 (some .int) :: hsAll
abbrev cX0_edgesAmong : ByteArray := prog_1_method_34_code
def yX0_edgesAmong : MethodName := ⟨RX0, "edgesAmong", "(IIII)I"⟩
abbrev wsX0_edgesAmong : List Cond := Cond.code yX0_edgesAmong cX0_edgesAmong 4 (some .int) :: hsAll
abbrev cX0_pieces : ByteArray := prog_1_method_13_code
def yX0_pieces : MethodName := ⟨RX0, "pieces", "(I)I"⟩
abbrev wsX0_pieces : List Cond := Cond.code yX0_pieces cX0_pieces 2 (some .int) :: hsAll
abbrev cX3_countPieces : ByteArray := prog_3_method_2_code
def yX3_countPieces : MethodName := ⟨RX3, "countPieces", "(LHewnSolids$Cells;)I"⟩
abbrev wsX3_countPieces : List Cond := Cond.code yX3_countPieces cX3_countPieces 3 (some .int) :: hsAll
abbrev cX3_countLeft : ByteArray := prog_3_method_5_code
def yX3_countLeft : MethodName := ⟨RX3, "countLeft", "()I"⟩
abbrev wsX3_countLeft : List Cond := Cond.code yX3_countLeft cX3_countLeft 4 (some .int) :: hsAll
abbrev cX3_countFrom : ByteArray := prog_3_method_6_code
def yX3_countFrom : MethodName := ⟨RX3, "countFrom", "(II)I"⟩
abbrev wsX3_countFrom : List Cond := Cond.code yX3_countFrom cX3_countFrom 5 (some .int) :: hsAll
abbrev cX3_take : ByteArray := prog_3_method_8_code
def yX3_take : MethodName := ⟨RX3, "take", "(III)V"⟩
abbrev wsX3_take : List Cond := Cond.code yX3_take cX3_take 6 none :: hsAll
abbrev cX3_spread : ByteArray := prog_3_method_7_code
def yX3_spread : MethodName := ⟨RX3, "spread", "()V"⟩
abbrev wsX3_spread : List Cond := Cond.code yX3_spread cX3_spread 6 none :: hsAll
abbrev cX0_hollows : ByteArray := prog_1_method_14_code
def yX0_hollows : MethodName := ⟨RX0, "hollows", "(I)I"⟩
abbrev wsX0_hollows : List Cond := Cond.code yX0_hollows cX0_hollows 2 (some .int) :: hsAll
abbrev cX3_countHollows : ByteArray := prog_3_method_3_code
def yX3_countHollows : MethodName := ⟨RX3, "countHollows", "(LHewnSolids$Cells;)I"⟩
abbrev wsX3_countHollows : List Cond := Cond.code yX3_countHollows cX3_countHollows 3 (some .int) :: hsAll
abbrev cX3_dropFromBorder : ByteArray := prog_3_method_4_code
def yX3_dropFromBorder : MethodName := ⟨RX3, "dropFromBorder", "()V"⟩
abbrev wsX3_dropFromBorder : List Cond := Cond.code yX3_dropFromBorder cX3_dropFromBorder 4 none :: hsAll
abbrev cX0_moment : ByteArray := prog_1_method_15_code
def yX0_moment : MethodName := ⟨RX0, "moment", "(II)I"⟩
abbrev wsX0_moment : List Cond := Cond.code yX0_moment cX0_moment 5 (some .int) :: hsAll
abbrev cX0_extent : ByteArray := prog_1_method_16_code
def yX0_extent : MethodName := ⟨RX0, "extent", "(III)I"⟩
abbrev wsX0_extent : List Cond := Cond.code yX0_extent cX0_extent 4 (some .int) :: hsAll
abbrev cX0_inside : ByteArray := prog_1_method_17_code
def yX0_inside : MethodName := ⟨RX0, "inside", "(IIII)I"⟩
abbrev wsX0_inside : List Cond := Cond.code yX0_inside cX0_inside 6 (some .int) :: hsAll
abbrev cX0_isPlane : ByteArray := prog_1_method_27_code
def yX0_isPlane : MethodName := ⟨RX0, "isPlane", "(I)Z"⟩
abbrev wsX0_isPlane : List Cond := Cond.code yX0_isPlane cX0_isPlane 1 (some .boolean) :: hsAll
abbrev cX1_countAround : ByteArray := prog_2_method_17_code
def yX1_countAround : MethodName := ⟨RX1, "countAround", "(III)I"⟩
abbrev wsX1_countAround : List Cond := Cond.code yX1_countAround cX1_countAround 4 (some .int) :: hsAll
abbrev cX1_countPair : ByteArray := prog_2_method_19_code
def yX1_countPair : MethodName := ⟨RX1, "countPair", "(III)I"⟩
abbrev wsX1_countPair : List Cond := Cond.code yX1_countPair cX1_countPair 4 (some .int) :: hsAll
abbrev cX0_section : ByteArray := prog_1_method_18_code
def yX0_section : MethodName := ⟨RX0, "section", "(III)I"⟩
abbrev wsX0_section : List Cond := Cond.code yX0_section cX0_section 4 (some .int) :: hsAll
abbrev cX0_same : ByteArray := prog_1_method_19_code
def yX0_same : MethodName := ⟨RX0, "same", "(II)Z"⟩
abbrev wsX0_same : List Cond := Cond.code yX0_same cX0_same 3 (some .boolean) :: hsAll
abbrev cX1_hasCellsOf : ByteArray := prog_2_method_18_code
def yX1_hasCellsOf : MethodName := ⟨RX1, "hasCellsOf", "(LHewnSolids$Cells;)Z"⟩
abbrev wsX1_hasCellsOf : List Cond := Cond.code yX1_hasCellsOf cX1_hasCellsOf 3 (some .boolean) :: hsAll
abbrev cX0_depth : ByteArray := prog_1_method_20_code
def yX0_depth : MethodName := ⟨RX0, "depth", "(IIZII)I"⟩
abbrev wsX0_depth : List Cond := Cond.code yX0_depth cX0_depth 6 (some .int) :: hsAll
abbrev cX0_depthOf : ByteArray := prog_1_method_31_code
def yX0_depthOf : MethodName := ⟨RX0, "depthOf", "(IZ)I"⟩
abbrev wsX0_depthOf : List Cond := Cond.code yX0_depthOf cX0_depthOf 2 (some .int) :: hsAll
abbrev cX5_numberOfLeadingZeros : ByteArray := prog_7_method_47_code
def yX5_numberOfLeadingZeros : MethodName := ⟨RX5, "numberOfLeadingZeros", "(I)I"⟩
abbrev wsX5_numberOfLeadingZeros : List Cond := Cond.code yX5_numberOfLeadingZeros cX5_numberOfLeadingZeros 2 (some .int) :: hsAll
abbrev cX5_numberOfTrailingZeros : ByteArray := prog_7_method_48_code
def yX5_numberOfTrailingZeros : MethodName := ⟨RX5, "numberOfTrailingZeros", "(I)I"⟩
abbrev wsX5_numberOfTrailingZeros : List Cond := Cond.code yX5_numberOfTrailingZeros cX5_numberOfTrailingZeros 2 (some .int) :: hsAll
abbrev cX0_stroke : ByteArray := prog_1_method_21_code
def yX0_stroke : MethodName := ⟨RX0, "stroke", "(IIZIII)I"⟩
abbrev wsX0_stroke : List Cond := Cond.code yX0_stroke cX0_stroke 8 (some .int) :: hsAll
abbrev cX0_isStrokePlace : ByteArray := prog_1_method_29_code
def yX0_isStrokePlace : MethodName := ⟨RX0, "isStrokePlace", "(III)Z"⟩
abbrev wsX0_isStrokePlace : List Cond := Cond.code yX0_isStrokePlace cX0_isStrokePlace 3 (some .boolean) :: hsAll
abbrev cX0_strokeBetween : ByteArray := prog_1_method_32_code
def yX0_strokeBetween : MethodName := ⟨RX0, "strokeBetween", "(IIZ)I"⟩
abbrev wsX0_strokeBetween : List Cond := Cond.code yX0_strokeBetween cX0_strokeBetween 3 (some .int) :: hsAll
abbrev cX0_strokes : ByteArray := prog_1_method_22_code
def yX0_strokes : MethodName := ⟨RX0, "strokes", "(IIZI)I"⟩
abbrev wsX0_strokes : List Cond := Cond.code yX0_strokes cX0_strokes 9 (some .int) :: hsAll
abbrev cX1_becomeView : ByteArray := prog_2_method_4_code
def yX1_becomeView : MethodName := ⟨RX1, "becomeView", "(LHewnSolids$Cells;I)V"⟩
abbrev wsX1_becomeView : List Cond := Cond.code yX1_becomeView cX1_becomeView 5 none :: hsAll
abbrev cX4_init : ByteArray := prog_6_method_1_code
def yX4_init : MethodName := ⟨RX4, "<init>", "()V"⟩
abbrev wsX4_init : List Cond := Cond.code yX4_init cX4_init 1 none :: hsAll
abbrev cX4_undo : ByteArray := prog_6_method_12_code
def yX4_undo : MethodName := ⟨RX4, "undo", "()I"⟩
abbrev wsX4_undo : List Cond := Cond.code yX4_undo cX4_undo 1 (some .int) :: hsAll
abbrev cX4_copy : ByteArray := prog_6_method_9_code
def yX4_copy : MethodName := ⟨RX4, "copy", "(II)V"⟩
abbrev wsX4_copy : List Cond := Cond.code yX4_copy cX4_copy 4 none :: hsAll
abbrev cX4_redo : ByteArray := prog_6_method_13_code
def yX4_redo : MethodName := ⟨RX4, "redo", "()I"⟩
abbrev wsX4_redo : List Cond := Cond.code yX4_redo cX4_redo 1 (some .int) :: hsAll
abbrev cX4_box : ByteArray := prog_6_method_14_code
def yX4_box : MethodName := ⟨RX4, "box", "(IIIIIII)I"⟩
abbrev wsX4_box : List Cond := Cond.code yX4_box cX4_box 10 (some .int) :: hsAll
abbrev cX4_isSolid : ByteArray := prog_6_method_3_code
def yX4_isSolid : MethodName := ⟨RX4, "isSolid", "(I)Z"⟩
abbrev wsX4_isSolid : List Cond := Cond.code yX4_isSolid cX4_isSolid 1 (some .boolean) :: hsAll
abbrev cX4_isIn : ByteArray := prog_6_method_2_code
def yX4_isIn : MethodName := ⟨RX4, "isIn", "(II)Z"⟩
abbrev wsX4_isIn : List Cond := Cond.code yX4_isIn cX4_isIn 2 (some .boolean) :: hsAll
abbrev cX4_clearDraft : ByteArray := prog_6_method_7_code
def yX4_clearDraft : MethodName := ⟨RX4, "clearDraft", "()V"⟩
abbrev wsX4_clearDraft : List Cond := Cond.code yX4_clearDraft cX4_clearDraft 2 none :: hsAll
abbrev cX4_put : ByteArray := prog_6_method_8_code
def yX4_put : MethodName := ⟨RX4, "put", "(III)V"⟩
abbrev wsX4_put : List Cond := Cond.code yX4_put cX4_put 4 none :: hsAll
abbrev cX4_step : ByteArray := prog_6_method_11_code
def yX4_step : MethodName := ⟨RX4, "step", "(I)I"⟩
abbrev wsX4_step : List Cond := Cond.code yX4_step cX4_step 3 (some .int) :: hsAll
abbrev cX4_count : ByteArray := prog_6_method_10_code
def yX4_count : MethodName := ⟨RX4, "count", "(I)I"⟩
abbrev wsX4_count : List Cond := Cond.code yX4_count cX4_count 4 (some .int) :: hsAll
abbrev cX4_join : ByteArray := prog_6_method_15_code
def yX4_join : MethodName := ⟨RX4, "join", "(IIII)I"⟩
abbrev wsX4_join : List Cond := Cond.code yX4_join cX4_join 9 (some .int) :: hsAll
abbrev cX4_has : ByteArray := prog_6_method_5_code
def yX4_has : MethodName := ⟨RX4, "has", "(IIII)Z"⟩
abbrev wsX4_has : List Cond := Cond.code yX4_has cX4_has 5 (some .boolean) :: hsAll
abbrev cX4_turn : ByteArray := prog_6_method_16_code
def yX4_turn : MethodName := ⟨RX4, "turn", "(II)I"⟩
abbrev wsX4_turn : List Cond := Cond.code yX4_turn cX4_turn 8 (some .int) :: hsAll
abbrev cX4_isAxis : ByteArray := prog_6_method_4_code
def yX4_isAxis : MethodName := ⟨RX4, "isAxis", "(I)Z"⟩
abbrev wsX4_isAxis : List Cond := Cond.code yX4_isAxis cX4_isAxis 1 (some .boolean) :: hsAll
abbrev cX4_mirror : ByteArray := prog_6_method_17_code
def yX4_mirror : MethodName := ⟨RX4, "mirror", "(II)I"⟩
abbrev wsX4_mirror : List Cond := Cond.code yX4_mirror cX4_mirror 7 (some .int) :: hsAll
abbrev cX4_shift : ByteArray := prog_6_method_19_code
def yX4_shift : MethodName := ⟨RX4, "shift", "(IIII)I"⟩
abbrev wsX4_shift : List Cond := Cond.code yX4_shift cX4_shift 9 (some .int) :: hsAll
abbrev cX4_shifted : ByteArray := prog_6_method_18_code
def yX4_shifted : MethodName := ⟨RX4, "shifted", "(II)I"⟩
abbrev wsX4_shifted : List Cond := Cond.code yX4_shifted cX4_shifted 2 (some .int) :: hsAll
abbrev cX4_sweep : ByteArray := prog_6_method_20_code
def yX4_sweep : MethodName := ⟨RX4, "sweep", "(IIIIII)I"⟩
abbrev wsX4_sweep : List Cond := Cond.code yX4_sweep cX4_sweep 10 (some .int) :: hsAll
abbrev cX4_hasBy : ByteArray := prog_6_method_6_code
def yX4_hasBy : MethodName := ⟨RX4, "hasBy", "(IIIII)Z"⟩
abbrev wsX4_hasBy : List Cond := Cond.code yX4_hasBy cX4_hasBy 6 (some .boolean) :: hsAll
abbrev cX4_volume : ByteArray := prog_6_method_21_code
def yX4_volume : MethodName := ⟨RX4, "volume", "(I)I"⟩
abbrev wsX4_volume : List Cond := Cond.code yX4_volume cX4_volume 2 (some .int) :: hsAll
abbrev cX4_sides : ByteArray := prog_6_method_22_code
def yX4_sides : MethodName := ⟨RX4, "sides", "(I)I"⟩
abbrev wsX4_sides : List Cond := Cond.code yX4_sides cX4_sides 7 (some .int) :: hsAll
abbrev cX4_edges : ByteArray := prog_6_method_24_code
def yX4_edges : MethodName := ⟨RX4, "edges", "(I)I"⟩
abbrev wsX4_edges : List Cond := Cond.code yX4_edges cX4_edges 7 (some .int) :: hsAll
abbrev cX4_isEdge : ByteArray := prog_6_method_23_code
def yX4_isEdge : MethodName := ⟨RX4, "isEdge", "(IIIII)Z"⟩
abbrev wsX4_isEdge : List Cond := Cond.code yX4_isEdge cX4_isEdge 11 (some .boolean) :: hsAll
abbrev cX4_pieces : ByteArray := prog_6_method_29_code
def yX4_pieces : MethodName := ⟨RX4, "pieces", "(I)I"⟩
abbrev wsX4_pieces : List Cond := Cond.code yX4_pieces cX4_pieces 2 (some .int) :: hsAll
abbrev cX4_sets : ByteArray := prog_6_method_28_code
def yX4_sets : MethodName := ⟨RX4, "sets", "(IZ)I"⟩
abbrev wsX4_sets : List Cond := Cond.code yX4_sets cX4_sets 5 (some .int) :: hsAll
abbrev cX4_see : ByteArray := prog_6_method_25_code
def yX4_see : MethodName := ⟨RX4, "see", "(IZIII)V"⟩
abbrev wsX4_see : List Cond := Cond.code yX4_see cX4_see 6 none :: hsAll
abbrev cX4_spread : ByteArray := prog_6_method_27_code
def yX4_spread : MethodName := ⟨RX4, "spread", "(IZ)V"⟩
abbrev wsX4_spread : List Cond := Cond.code yX4_spread cX4_spread 6 none :: hsAll
abbrev cX4_isBorder : ByteArray := prog_6_method_26_code
def yX4_isBorder : MethodName := ⟨RX4, "isBorder", "(I)Z"⟩
abbrev wsX4_isBorder : List Cond := Cond.code yX4_isBorder cX4_isBorder 1 (some .boolean) :: hsAll
abbrev cX4_hollows : ByteArray := prog_6_method_30_code
def yX4_hollows : MethodName := ⟨RX4, "hollows", "(I)I"⟩
abbrev wsX4_hollows : List Cond := Cond.code yX4_hollows cX4_hollows 2 (some .int) :: hsAll
abbrev cX4_moment : ByteArray := prog_6_method_32_code
def yX4_moment : MethodName := ⟨RX4, "moment", "(II)I"⟩
abbrev wsX4_moment : List Cond := Cond.code yX4_moment cX4_moment 5 (some .int) :: hsAll
abbrev cX4_countAt : ByteArray := prog_6_method_31_code
def yX4_countAt : MethodName := ⟨RX4, "countAt", "(III)I"⟩
abbrev wsX4_countAt : List Cond := Cond.code yX4_countAt cX4_countAt 6 (some .int) :: hsAll
abbrev cX4_extent : ByteArray := prog_6_method_33_code
def yX4_extent : MethodName := ⟨RX4, "extent", "(III)I"⟩
abbrev wsX4_extent : List Cond := Cond.code yX4_extent cX4_extent 7 (some .int) :: hsAll
abbrev cX4_inside : ByteArray := prog_6_method_34_code
def yX4_inside : MethodName := ⟨RX4, "inside", "(IIII)I"⟩
abbrev wsX4_inside : List Cond := Cond.code yX4_inside cX4_inside 9 (some .int) :: hsAll
abbrev cX4_section : ByteArray := prog_6_method_35_code
def yX4_section : MethodName := ⟨RX4, "section", "(III)I"⟩
abbrev wsX4_section : List Cond := Cond.code yX4_section cX4_section 4 (some .int) :: hsAll
abbrev cX4_same : ByteArray := prog_6_method_36_code
def yX4_same : MethodName := ⟨RX4, "same", "(II)Z"⟩
abbrev wsX4_same : List Cond := Cond.code yX4_same cX4_same 5 (some .boolean) :: hsAll
abbrev cX4_depth : ByteArray := prog_6_method_38_code
def yX4_depth : MethodName := ⟨RX4, "depth", "(IIZII)I"⟩
abbrev wsX4_depth : List Cond := Cond.code yX4_depth cX4_depth 6 (some .int) :: hsAll
abbrev cX4_depthOf : ByteArray := prog_6_method_37_code
def yX4_depthOf : MethodName := ⟨RX4, "depthOf", "(IIZII)I"⟩
abbrev wsX4_depthOf : List Cond := Cond.code yX4_depthOf cX4_depthOf 7 (some .int) :: hsAll
abbrev cX4_stroke : ByteArray := prog_6_method_41_code
def yX4_stroke : MethodName := ⟨RX4, "stroke", "(IIZIII)I"⟩
abbrev wsX4_stroke : List Cond := Cond.code yX4_stroke cX4_stroke 8 (some .int) :: hsAll
abbrev cX4_strokeOf : ByteArray := prog_6_method_40_code
def yX4_strokeOf : MethodName := ⟨RX4, "strokeOf", "(IIZIII)I"⟩
abbrev wsX4_strokeOf : List Cond := Cond.code yX4_strokeOf cX4_strokeOf 10 (some .int) :: hsAll
abbrev cX4_isEdgeAt : ByteArray := prog_6_method_39_code
def yX4_isEdgeAt : MethodName := ⟨RX4, "isEdgeAt", "(IIIIII)Z"⟩
abbrev wsX4_isEdgeAt : List Cond := Cond.code yX4_isEdgeAt cX4_isEdgeAt 7 (some .boolean) :: hsAll
abbrev cX4_strokes : ByteArray := prog_6_method_42_code
def yX4_strokes : MethodName := ⟨RX4, "strokes", "(IIZI)I"⟩
abbrev wsX4_strokes : List Cond := Cond.code yX4_strokes cX4_strokes 8 (some .int) :: hsAll
def hsNF : List (String × Nat × String × String × String × String) := [(RX3, 18, "HewnSolids$Cells", "columns", "[I", "HewnSolids")]
def hsNM : List (String × Nat × MethodName × String) := [(RX1, 15, yX0_isCoordinate, "HewnSolids"), (RX1, 49, yX0_edgesBetween, "HewnSolids"), (RX1, 52, yX0_edgesAmong, "HewnSolids"), (RX3, 45, yX0_isCoordinate, "HewnSolids")]
end
section
set_option maxRecDepth 100000 in
theorem w_initialized_XL : Cond.initialized RXL ∈ hsAll := hs_in 23 (by decide +kernel) (by decide +kernel)
set_option maxRecDepth 100000 in
theorem w_initialized_X0 : Cond.initialized RX0 ∈ hsAll := hs_in 24 (by decide +kernel) (by decide +kernel)
set_option maxRecDepth 100000 in
theorem w_initialized_X1 : Cond.initialized RX1 ∈ hsAll := hs_in 25 (by decide +kernel) (by decide +kernel)
set_option maxRecDepth 100000 in
theorem w_initialized_X2 : Cond.initialized RX2 ∈ hsAll := hs_in 26 (by decide +kernel) (by decide +kernel)
set_option maxRecDepth 100000 in
theorem w_initialized_X3 : Cond.initialized RX3 ∈ hsAll := hs_in 27 (by decide +kernel) (by decide +kernel)
set_option maxRecDepth 100000 in
theorem w_initialized_X4 : Cond.initialized RX4 ∈ hsAll := hs_in 28 (by decide +kernel) (by decide +kernel)
set_option maxRecDepth 100000 in
theorem w_initialized_X5 : Cond.initialized RX5 ∈ hsAll := hs_in 29 (by decide +kernel) (by decide +kernel)
set_option maxRecDepth 100000 in
theorem w_classLink_XL_7 : Cond.classLink RXL 7 RX0 ∈ hsAll := hs_in 30 (by decide +kernel) (by decide +kernel)
set_option maxRecDepth 100000 in
theorem w_instantiable_X0 : Cond.instantiable RX0 5 ∈ hsAll := hs_in 31 (by decide +kernel) (by decide +kernel)
set_option maxRecDepth 100000 in
theorem w_methodLink_XL_9 : Cond.methodLink RXL 9 yX0_init ∈ hsAll := hs_in 32 (by decide +kernel) (by decide +kernel)
set_option maxRecDepth 100000 in
theorem w_instanceMethod_X0_init : Cond.instanceMethod yX0_init ∈ hsAll := hs_in 33 (by decide +kernel) (by decide +kernel)
set_option maxRecDepth 100000 in
theorem w_code_X0_init : Cond.code yX0_init cX0_init 2 none ∈ hsAll := hs_in 34 (by decide +kernel) (by decide +kernel)
set_option maxRecDepth 100000 in
theorem w_methodLink_X0_3 : Cond.methodLink RX0 3 objectInit ∈ hsAll := hs_in 35 (by decide +kernel) (by decide +kernel)
set_option maxRecDepth 100000 in
theorem w_classLink_X0_9 : Cond.classLink RX0 9 RX1 ∈ hsAll := hs_in 38 (by decide +kernel) (by decide +kernel)
set_option maxRecDepth 100000 in
theorem w_instantiable_X1 : Cond.instantiable RX1 1 ∈ hsAll := hs_in 40 (by decide +kernel) (by decide +kernel)
set_option maxRecDepth 100000 in
theorem w_methodLink_X0_15 : Cond.methodLink RX0 15 yX1_init ∈ hsAll := hs_in 41 (by decide +kernel) (by decide +kernel)
set_option maxRecDepth 100000 in
theorem w_instanceMethod_X1_init : Cond.instanceMethod yX1_init ∈ hsAll := hs_in 42 (by decide +kernel) (by decide +kernel)
set_option maxRecDepth 100000 in
theorem w_code_X1_init : Cond.code yX1_init cX1_init 1 none ∈ hsAll := hs_in 43 (by decide +kernel) (by decide +kernel)
set_option maxRecDepth 100000 in
theorem w_methodLink_X1_3 : Cond.methodLink RX1 3 objectInit ∈ hsAll := hs_in 44 (by decide +kernel) (by decide +kernel)
set_option maxRecDepth 100000 in
theorem w_fieldLink_X1_9 : Cond.fieldLink RX1 9 "HewnSolids$Cells" "columns" "[I" ∈ hsAll := hs_in 45 (by decide +kernel) (by decide +kernel)
set_option maxRecDepth 100000 in
theorem w_arrayClass : Cond.arrayClass .int ∈ hsAll := hs_in 50 (by decide +kernel) (by decide +kernel)
set_option maxRecDepth 100000 in
theorem w_classLink_X0_16 : Cond.classLink RX0 16 RX2 ∈ hsAll := hs_in 51 (by decide +kernel) (by decide +kernel)
set_option maxRecDepth 100000 in
theorem w_instantiable_X2 : Cond.instantiable RX2 5 ∈ hsAll := hs_in 52 (by decide +kernel) (by decide +kernel)
set_option maxRecDepth 100000 in
theorem w_methodLink_X0_18 : Cond.methodLink RX0 18 yX2_init ∈ hsAll := hs_in 53 (by decide +kernel) (by decide +kernel)
set_option maxRecDepth 100000 in
theorem w_instanceMethod_X2_init : Cond.instanceMethod yX2_init ∈ hsAll := hs_in 54 (by decide +kernel) (by decide +kernel)
set_option maxRecDepth 100000 in
theorem w_code_X2_init : Cond.code yX2_init cX2_init 2 none ∈ hsAll := hs_in 55 (by decide +kernel) (by decide +kernel)
set_option maxRecDepth 100000 in
theorem w_methodLink_X2_3 : Cond.methodLink RX2 3 objectInit ∈ hsAll := hs_in 56 (by decide +kernel) (by decide +kernel)
set_option maxRecDepth 100000 in
theorem w_classLink_X2_15 : Cond.classLink RX2 15 RX1 ∈ hsAll := hs_in 57 (by decide +kernel) (by decide +kernel)
set_option maxRecDepth 100000 in
theorem w_methodLink_X2_21 : Cond.methodLink RX2 21 yX1_init ∈ hsAll := hs_in 58 (by decide +kernel) (by decide +kernel)
set_option maxRecDepth 100000 in
theorem w_fieldLink_X2_9 : Cond.fieldLink RX2 9 "HewnSolids$Steps" "numbers" "[I" ∈ hsAll := hs_in 59 (by decide +kernel) (by decide +kernel)
set_option maxRecDepth 100000 in
theorem w_fieldLink_X2_17 : Cond.fieldLink RX2 17 "HewnSolids$Steps" "others" "[LHewnSolids$Cells;" ∈ hsAll := hs_in 60 (by decide +kernel) (by decide +kernel)
set_option maxRecDepth 100000 in
theorem w_fieldLink_X2_26 : Cond.fieldLink RX2 26 "HewnSolids$Steps" "oldest" "I" ∈ hsAll := hs_in 61 (by decide +kernel) (by decide +kernel)
set_option maxRecDepth 100000 in
theorem w_fieldLink_X2_22 : Cond.fieldLink RX2 22 "HewnSolids$Steps" "done" "I" ∈ hsAll := hs_in 62 (by decide +kernel) (by decide +kernel)
set_option maxRecDepth 100000 in
theorem w_fieldLink_X2_29 : Cond.fieldLink RX2 29 "HewnSolids$Steps" "takenBack" "I" ∈ hsAll := hs_in 63 (by decide +kernel) (by decide +kernel)
set_option maxRecDepth 100000 in
theorem w_classLink_X0_27 : Cond.classLink RX0 27 RX3 ∈ hsAll := hs_in 75 (by decide +kernel) (by decide +kernel)
set_option maxRecDepth 100000 in
theorem w_instantiable_X3 : Cond.instantiable RX3 3 ∈ hsAll := hs_in 76 (by decide +kernel) (by decide +kernel)
set_option maxRecDepth 100000 in
theorem w_methodLink_X0_29 : Cond.methodLink RX0 29 yX3_init ∈ hsAll := hs_in 77 (by decide +kernel) (by decide +kernel)
set_option maxRecDepth 100000 in
theorem w_instanceMethod_X3_init : Cond.instanceMethod yX3_init ∈ hsAll := hs_in 78 (by decide +kernel) (by decide +kernel)
set_option maxRecDepth 100000 in
theorem w_code_X3_init : Cond.code yX3_init cX3_init 1 none ∈ hsAll := hs_in 79 (by decide +kernel) (by decide +kernel)
set_option maxRecDepth 100000 in
theorem w_methodLink_X3_3 : Cond.methodLink RX3 3 objectInit ∈ hsAll := hs_in 80 (by decide +kernel) (by decide +kernel)
set_option maxRecDepth 100000 in
theorem w_fieldLink_X3_9 : Cond.fieldLink RX3 9 "HewnSolids$Flood" "left" "[I" ∈ hsAll := hs_in 81 (by decide +kernel) (by decide +kernel)
set_option maxRecDepth 100000 in
theorem w_fieldLink_X3_15 : Cond.fieldLink RX3 15 "HewnSolids$Flood" "taken" "[I" ∈ hsAll := hs_in 82 (by decide +kernel) (by decide +kernel)
set_option maxRecDepth 100000 in
theorem w_fieldLink_X3_30 : Cond.fieldLink RX3 30 "HewnSolids$Flood" "end" "I" ∈ hsAll := hs_in 83 (by decide +kernel) (by decide +kernel)
set_option maxRecDepth 100000 in
theorem w_fieldLink_X0_11 : Cond.fieldLink RX0 11 "HewnSolids" "solids" "[LHewnSolids$Cells;" ∈ hsAll := hs_in 91 (by decide +kernel) (by decide +kernel)
set_option maxRecDepth 100000 in
theorem w_fieldLink_X0_19 : Cond.fieldLink RX0 19 "HewnSolids" "steps" "LHewnSolids$Steps;" ∈ hsAll := hs_in 92 (by decide +kernel) (by decide +kernel)
set_option maxRecDepth 100000 in
theorem w_fieldLink_X0_23 : Cond.fieldLink RX0 23 "HewnSolids" "view" "LHewnSolids$Cells;" ∈ hsAll := hs_in 93 (by decide +kernel) (by decide +kernel)
set_option maxRecDepth 100000 in
theorem w_fieldLink_X0_30 : Cond.fieldLink RX0 30 "HewnSolids" "flood" "LHewnSolids$Flood;" ∈ hsAll := hs_in 94 (by decide +kernel) (by decide +kernel)
set_option maxRecDepth 100000 in
theorem w_fieldLink_X0_34 : Cond.fieldLink RX0 34 "HewnSolids" "outcome" "LHewnSolids$Cells;" ∈ hsAll := hs_in 95 (by decide +kernel) (by decide +kernel)
set_option maxRecDepth 100000 in
theorem w_methodLink_XL_13 : Cond.methodLink RXL 13 yX0_box ∈ hsAll := hs_in 107 (by decide +kernel) (by decide +kernel)
set_option maxRecDepth 100000 in
theorem w_instanceMethod_X0_box : Cond.instanceMethod yX0_box ∈ hsAll := hs_in 108 (by decide +kernel) (by decide +kernel)
set_option maxRecDepth 100000 in
theorem w_code_X0_box : Cond.code yX0_box cX0_box 8 (some .int) ∈ hsAll := hs_in 110 (by decide +kernel) (by decide +kernel)
set_option maxRecDepth 100000 in
theorem w_methodLink_X0_37 : Cond.methodLink RX0 37 yX0_isSolid ∈ hsAll := hs_in 111 (by decide +kernel) (by decide +kernel)
set_option maxRecDepth 100000 in
theorem w_static_X0_isSolid : Cond.static yX0_isSolid ∈ hsAll := hs_in 112 (by decide +kernel) (by decide +kernel)
set_option maxRecDepth 100000 in
theorem w_code_X0_isSolid : Cond.code yX0_isSolid cX0_isSolid 1 (some .boolean) ∈ hsAll := hs_in 113 (by decide +kernel) (by decide +kernel)
set_option maxRecDepth 100000 in
theorem w_methodLink_X0_41 : Cond.methodLink RX0 41 yX0_isStretch ∈ hsAll := hs_in 114 (by decide +kernel) (by decide +kernel)
set_option maxRecDepth 100000 in
theorem w_static_X0_isStretch : Cond.static yX0_isStretch ∈ hsAll := hs_in 115 (by decide +kernel) (by decide +kernel)
set_option maxRecDepth 100000 in
theorem w_code_X0_isStretch : Cond.code yX0_isStretch cX0_isStretch 2 (some .boolean) ∈ hsAll := hs_in 116 (by decide +kernel) (by decide +kernel)
set_option maxRecDepth 100000 in
theorem w_methodLink_X0_75 : Cond.methodLink RX0 75 yX0_isCoordinate ∈ hsAll := hs_in 117 (by decide +kernel) (by decide +kernel)
set_option maxRecDepth 100000 in
theorem w_static_X0_isCoordinate : Cond.static yX0_isCoordinate ∈ hsAll := hs_in 118 (by decide +kernel) (by decide +kernel)
set_option maxRecDepth 100000 in
theorem w_code_X0_isCoordinate : Cond.code yX0_isCoordinate cX0_isCoordinate 1 (some .boolean) ∈ hsAll := hs_in 119 (by decide +kernel) (by decide +kernel)
set_option maxRecDepth 100000 in
theorem w_methodLink_X0_45 : Cond.methodLink RX0 45 yX1_becomeBox ∈ hsAll := hs_in 120 (by decide +kernel) (by decide +kernel)
set_option maxRecDepth 100000 in
theorem w_instanceMethod_X1_becomeBox : Cond.instanceMethod yX1_becomeBox ∈ hsAll := hs_in 121 (by decide +kernel) (by decide +kernel)
set_option maxRecDepth 100000 in
theorem w_code_X1_becomeBox : Cond.code yX1_becomeBox cX1_becomeBox 11 none ∈ hsAll := hs_in 123 (by decide +kernel) (by decide +kernel)
set_option maxRecDepth 100000 in
theorem w_methodLink_X1_27 : Cond.methodLink RX1 27 yX1_spanOf ∈ hsAll := hs_in 124 (by decide +kernel) (by decide +kernel)
set_option maxRecDepth 100000 in
theorem w_static_X1_spanOf : Cond.static yX1_spanOf ∈ hsAll := hs_in 125 (by decide +kernel) (by decide +kernel)
set_option maxRecDepth 100000 in
theorem w_code_X1_spanOf : Cond.code yX1_spanOf cX1_spanOf 2 (some .int) ∈ hsAll := hs_in 126 (by decide +kernel) (by decide +kernel)
set_option maxRecDepth 100000 in
theorem w_methodLink_X0_49 : Cond.methodLink RX0 49 yX0_takeStep ∈ hsAll := hs_in 127 (by decide +kernel) (by decide +kernel)
set_option maxRecDepth 100000 in
theorem w_instanceMethod_X0_takeStep : Cond.instanceMethod yX0_takeStep ∈ hsAll := hs_in 129 (by decide +kernel) (by decide +kernel)
set_option maxRecDepth 100000 in
theorem w_code_X0_takeStep : Cond.code yX0_takeStep cX0_takeStep 3 (some .int) ∈ hsAll := hs_in 130 (by decide +kernel) (by decide +kernel)
set_option maxRecDepth 100000 in
theorem w_methodLink_X0_148 : Cond.methodLink RX0 148 yX2_keep ∈ hsAll := hs_in 131 (by decide +kernel) (by decide +kernel)
set_option maxRecDepth 100000 in
theorem w_instanceMethod_X2_keep : Cond.instanceMethod yX2_keep ∈ hsAll := hs_in 132 (by decide +kernel) (by decide +kernel)
set_option maxRecDepth 100000 in
theorem w_code_X2_keep : Cond.code yX2_keep cX2_keep 5 (some (.object "HewnSolids$Cells")) ∈ hsAll := hs_in 134 (by decide +kernel) (by decide +kernel)
set_option maxRecDepth 100000 in
theorem w_methodLink_X0_89 : Cond.methodLink RX0 89 yX1_countCells ∈ hsAll := hs_in 135 (by decide +kernel) (by decide +kernel)
set_option maxRecDepth 100000 in
theorem w_instanceMethod_X1_countCells : Cond.instanceMethod yX1_countCells ∈ hsAll := hs_in 136 (by decide +kernel) (by decide +kernel)
set_option maxRecDepth 100000 in
theorem w_code_X1_countCells : Cond.code yX1_countCells cX1_countCells 3 (some .int) ∈ hsAll := hs_in 138 (by decide +kernel) (by decide +kernel)
set_option maxRecDepth 100000 in
theorem w_methodLink_X1_40 : Cond.methodLink RX1 40 yX5_bitCount ∈ hsAll := hs_in 139 (by decide +kernel) (by decide +kernel)
set_option maxRecDepth 100000 in
theorem w_static_X5_bitCount : Cond.static yX5_bitCount ∈ hsAll := hs_in 140 (by decide +kernel) (by decide +kernel)
set_option maxRecDepth 100000 in
theorem w_code_X5_bitCount : Cond.code yX5_bitCount cX5_bitCount 1 (some .int) ∈ hsAll := hs_in 141 (by decide +kernel) (by decide +kernel)
set_option maxRecDepth 100000 in
theorem w_constant_X5_265 : Cond.constant RX5 265 (1431655765) ∈ hsAll := hs_in 142 (by decide +kernel) (by decide +kernel)
set_option maxRecDepth 100000 in
theorem w_constant_X5_266 : Cond.constant RX5 266 (858993459) ∈ hsAll := hs_in 143 (by decide +kernel) (by decide +kernel)
set_option maxRecDepth 100000 in
theorem w_constant_X5_267 : Cond.constant RX5 267 (252645135) ∈ hsAll := hs_in 144 (by decide +kernel) (by decide +kernel)
set_option maxRecDepth 100000 in
theorem w_methodLink_XL_18 : Cond.methodLink RXL 18 yX0_join ∈ hsAll := hs_in 145 (by decide +kernel) (by decide +kernel)
set_option maxRecDepth 100000 in
theorem w_instanceMethod_X0_join : Cond.instanceMethod yX0_join ∈ hsAll := hs_in 146 (by decide +kernel) (by decide +kernel)
set_option maxRecDepth 100000 in
theorem w_code_X0_join : Cond.code yX0_join cX0_join 5 (some .int) ∈ hsAll := hs_in 148 (by decide +kernel) (by decide +kernel)
set_option maxRecDepth 100000 in
theorem w_methodLink_X0_53 : Cond.methodLink RX0 53 yX1_becomeJoined ∈ hsAll := hs_in 149 (by decide +kernel) (by decide +kernel)
set_option maxRecDepth 100000 in
theorem w_instanceMethod_X1_becomeJoined : Cond.instanceMethod yX1_becomeJoined ∈ hsAll := hs_in 150 (by decide +kernel) (by decide +kernel)
set_option maxRecDepth 100000 in
theorem w_code_X1_becomeJoined : Cond.code yX1_becomeJoined cX1_becomeJoined 5 none ∈ hsAll := hs_in 152 (by decide +kernel) (by decide +kernel)
set_option maxRecDepth 100000 in
theorem w_methodLink_X1_30 : Cond.methodLink RX1 30 yX1_joined ∈ hsAll := hs_in 153 (by decide +kernel) (by decide +kernel)
set_option maxRecDepth 100000 in
theorem w_static_X1_joined : Cond.static yX1_joined ∈ hsAll := hs_in 154 (by decide +kernel) (by decide +kernel)
set_option maxRecDepth 100000 in
theorem w_code_X1_joined : Cond.code yX1_joined cX1_joined 3 (some .int) ∈ hsAll := hs_in 155 (by decide +kernel) (by decide +kernel)
set_option maxRecDepth 100000 in
theorem w_methodLink_XL_23 : Cond.methodLink RXL 23 yX0_turn ∈ hsAll := hs_in 156 (by decide +kernel) (by decide +kernel)
set_option maxRecDepth 100000 in
theorem w_instanceMethod_X0_turn : Cond.instanceMethod yX0_turn ∈ hsAll := hs_in 157 (by decide +kernel) (by decide +kernel)
set_option maxRecDepth 100000 in
theorem w_code_X0_turn : Cond.code yX0_turn cX0_turn 3 (some .int) ∈ hsAll := hs_in 159 (by decide +kernel) (by decide +kernel)
set_option maxRecDepth 100000 in
theorem w_methodLink_X0_57 : Cond.methodLink RX0 57 yX0_isAxis ∈ hsAll := hs_in 160 (by decide +kernel) (by decide +kernel)
set_option maxRecDepth 100000 in
theorem w_static_X0_isAxis : Cond.static yX0_isAxis ∈ hsAll := hs_in 161 (by decide +kernel) (by decide +kernel)
set_option maxRecDepth 100000 in
theorem w_code_X0_isAxis : Cond.code yX0_isAxis cX0_isAxis 1 (some .boolean) ∈ hsAll := hs_in 162 (by decide +kernel) (by decide +kernel)
set_option maxRecDepth 100000 in
theorem w_methodLink_X0_60 : Cond.methodLink RX0 60 yX1_becomeTurned ∈ hsAll := hs_in 163 (by decide +kernel) (by decide +kernel)
set_option maxRecDepth 100000 in
theorem w_instanceMethod_X1_becomeTurned : Cond.instanceMethod yX1_becomeTurned ∈ hsAll := hs_in 164 (by decide +kernel) (by decide +kernel)
set_option maxRecDepth 100000 in
theorem w_code_X1_becomeTurned : Cond.code yX1_becomeTurned cX1_becomeTurned 5 none ∈ hsAll := hs_in 166 (by decide +kernel) (by decide +kernel)
set_option maxRecDepth 100000 in
theorem w_methodLink_X1_33 : Cond.methodLink RX1 33 yX1_turnedColumn ∈ hsAll := hs_in 167 (by decide +kernel) (by decide +kernel)
set_option maxRecDepth 100000 in
theorem w_static_X1_turnedColumn : Cond.static yX1_turnedColumn ∈ hsAll := hs_in 168 (by decide +kernel) (by decide +kernel)
set_option maxRecDepth 100000 in
theorem w_code_X1_turnedColumn : Cond.code yX1_turnedColumn cX1_turnedColumn 4 (some .int) ∈ hsAll := hs_in 169 (by decide +kernel) (by decide +kernel)
set_option maxRecDepth 100000 in
theorem w_methodLink_X1_23 : Cond.methodLink RX1 23 yX1_columnAlong ∈ hsAll := hs_in 170 (by decide +kernel) (by decide +kernel)
set_option maxRecDepth 100000 in
theorem w_instanceMethod_X1_columnAlong : Cond.instanceMethod yX1_columnAlong ∈ hsAll := hs_in 171 (by decide +kernel) (by decide +kernel)
set_option maxRecDepth 100000 in
theorem w_code_X1_columnAlong : Cond.code yX1_columnAlong cX1_columnAlong 7 (some .int) ∈ hsAll := hs_in 173 (by decide +kernel) (by decide +kernel)
set_option maxRecDepth 100000 in
theorem w_methodLink_X1_19 : Cond.methodLink RX1 19 yX1_column ∈ hsAll := hs_in 174 (by decide +kernel) (by decide +kernel)
set_option maxRecDepth 100000 in
theorem w_instanceMethod_X1_column : Cond.instanceMethod yX1_column ∈ hsAll := hs_in 175 (by decide +kernel) (by decide +kernel)
set_option maxRecDepth 100000 in
theorem w_code_X1_column : Cond.code yX1_column cX1_column 3 (some .int) ∈ hsAll := hs_in 177 (by decide +kernel) (by decide +kernel)
set_option maxRecDepth 100000 in
theorem w_methodLink_X1_59 : Cond.methodLink RX1 59 yX1_reversed ∈ hsAll := hs_in 179 (by decide +kernel) (by decide +kernel)
set_option maxRecDepth 100000 in
theorem w_static_X1_reversed : Cond.static yX1_reversed ∈ hsAll := hs_in 180 (by decide +kernel) (by decide +kernel)
set_option maxRecDepth 100000 in
theorem w_code_X1_reversed : Cond.code yX1_reversed cX1_reversed 1 (some .int) ∈ hsAll := hs_in 181 (by decide +kernel) (by decide +kernel)
set_option maxRecDepth 100000 in
theorem w_methodLink_X1_62 : Cond.methodLink RX1 62 yX5_reverse ∈ hsAll := hs_in 182 (by decide +kernel) (by decide +kernel)
set_option maxRecDepth 100000 in
theorem w_static_X5_reverse : Cond.static yX5_reverse ∈ hsAll := hs_in 183 (by decide +kernel) (by decide +kernel)
set_option maxRecDepth 100000 in
theorem w_code_X5_reverse : Cond.code yX5_reverse cX5_reverse 1 (some .int) ∈ hsAll := hs_in 184 (by decide +kernel) (by decide +kernel)
set_option maxRecDepth 100000 in
theorem w_methodLink_X5_268 : Cond.methodLink RX5 268 yX5_reverseBytes ∈ hsAll := hs_in 185 (by decide +kernel) (by decide +kernel)
set_option maxRecDepth 100000 in
theorem w_static_X5_reverseBytes : Cond.static yX5_reverseBytes ∈ hsAll := hs_in 186 (by decide +kernel) (by decide +kernel)
set_option maxRecDepth 100000 in
theorem w_code_X5_reverseBytes : Cond.code yX5_reverseBytes cX5_reverseBytes 1 (some .int) ∈ hsAll := hs_in 187 (by decide +kernel) (by decide +kernel)
set_option maxRecDepth 100000 in
theorem w_constant_X5_274 : Cond.constant RX5 274 (65280) ∈ hsAll := hs_in 188 (by decide +kernel) (by decide +kernel)
set_option maxRecDepth 100000 in
theorem w_methodLink_XL_28 : Cond.methodLink RXL 28 yX0_mirror ∈ hsAll := hs_in 189 (by decide +kernel) (by decide +kernel)
set_option maxRecDepth 100000 in
theorem w_instanceMethod_X0_mirror : Cond.instanceMethod yX0_mirror ∈ hsAll := hs_in 190 (by decide +kernel) (by decide +kernel)
set_option maxRecDepth 100000 in
theorem w_code_X0_mirror : Cond.code yX0_mirror cX0_mirror 3 (some .int) ∈ hsAll := hs_in 192 (by decide +kernel) (by decide +kernel)
set_option maxRecDepth 100000 in
theorem w_methodLink_X0_64 : Cond.methodLink RX0 64 yX1_becomeMirrored ∈ hsAll := hs_in 193 (by decide +kernel) (by decide +kernel)
set_option maxRecDepth 100000 in
theorem w_instanceMethod_X1_becomeMirrored : Cond.instanceMethod yX1_becomeMirrored ∈ hsAll := hs_in 194 (by decide +kernel) (by decide +kernel)
set_option maxRecDepth 100000 in
theorem w_code_X1_becomeMirrored : Cond.code yX1_becomeMirrored cX1_becomeMirrored 5 none ∈ hsAll := hs_in 196 (by decide +kernel) (by decide +kernel)
set_option maxRecDepth 100000 in
theorem w_methodLink_X1_37 : Cond.methodLink RX1 37 yX1_mirroredColumn ∈ hsAll := hs_in 197 (by decide +kernel) (by decide +kernel)
set_option maxRecDepth 100000 in
theorem w_static_X1_mirroredColumn : Cond.static yX1_mirroredColumn ∈ hsAll := hs_in 198 (by decide +kernel) (by decide +kernel)
set_option maxRecDepth 100000 in
theorem w_code_X1_mirroredColumn : Cond.code yX1_mirroredColumn cX1_mirroredColumn 4 (some .int) ∈ hsAll := hs_in 199 (by decide +kernel) (by decide +kernel)
set_option maxRecDepth 100000 in
theorem w_methodLink_XL_32 : Cond.methodLink RXL 32 yX0_shift ∈ hsAll := hs_in 200 (by decide +kernel) (by decide +kernel)
set_option maxRecDepth 100000 in
theorem w_instanceMethod_X0_shift : Cond.instanceMethod yX0_shift ∈ hsAll := hs_in 201 (by decide +kernel) (by decide +kernel)
set_option maxRecDepth 100000 in
theorem w_code_X0_shift : Cond.code yX0_shift cX0_shift 6 (some .int) ∈ hsAll := hs_in 203 (by decide +kernel) (by decide +kernel)
set_option maxRecDepth 100000 in
theorem w_methodLink_X0_67 : Cond.methodLink RX0 67 yX0_wouldLeave ∈ hsAll := hs_in 204 (by decide +kernel) (by decide +kernel)
set_option maxRecDepth 100000 in
theorem w_static_X0_wouldLeave : Cond.static yX0_wouldLeave ∈ hsAll := hs_in 205 (by decide +kernel) (by decide +kernel)
set_option maxRecDepth 100000 in
theorem w_code_X0_wouldLeave : Cond.code yX0_wouldLeave cX0_wouldLeave 4 (some .boolean) ∈ hsAll := hs_in 206 (by decide +kernel) (by decide +kernel)
set_option maxRecDepth 100000 in
theorem w_methodLink_X0_110 : Cond.methodLink RX0 110 yX1_leastAlong ∈ hsAll := hs_in 207 (by decide +kernel) (by decide +kernel)
set_option maxRecDepth 100000 in
theorem w_instanceMethod_X1_leastAlong : Cond.instanceMethod yX1_leastAlong ∈ hsAll := hs_in 208 (by decide +kernel) (by decide +kernel)
set_option maxRecDepth 100000 in
theorem w_code_X1_leastAlong : Cond.code yX1_leastAlong cX1_leastAlong 3 (some .int) ∈ hsAll := hs_in 210 (by decide +kernel) (by decide +kernel)
set_option maxRecDepth 100000 in
theorem w_methodLink_X1_46 : Cond.methodLink RX1 46 yX1_countLayer ∈ hsAll := hs_in 211 (by decide +kernel) (by decide +kernel)
set_option maxRecDepth 100000 in
theorem w_instanceMethod_X1_countLayer : Cond.instanceMethod yX1_countLayer ∈ hsAll := hs_in 212 (by decide +kernel) (by decide +kernel)
set_option maxRecDepth 100000 in
theorem w_code_X1_countLayer : Cond.code yX1_countLayer cX1_countLayer 5 (some .int) ∈ hsAll := hs_in 214 (by decide +kernel) (by decide +kernel)
set_option maxRecDepth 100000 in
theorem w_methodLink_X0_113 : Cond.methodLink RX0 113 yX1_greatestAlong ∈ hsAll := hs_in 215 (by decide +kernel) (by decide +kernel)
set_option maxRecDepth 100000 in
theorem w_instanceMethod_X1_greatestAlong : Cond.instanceMethod yX1_greatestAlong ∈ hsAll := hs_in 216 (by decide +kernel) (by decide +kernel)
set_option maxRecDepth 100000 in
theorem w_code_X1_greatestAlong : Cond.code yX1_greatestAlong cX1_greatestAlong 3 (some .int) ∈ hsAll := hs_in 218 (by decide +kernel) (by decide +kernel)
set_option maxRecDepth 100000 in
theorem w_methodLink_X0_71 : Cond.methodLink RX0 71 yX1_becomeShifted ∈ hsAll := hs_in 219 (by decide +kernel) (by decide +kernel)
set_option maxRecDepth 100000 in
theorem w_instanceMethod_X1_becomeShifted : Cond.instanceMethod yX1_becomeShifted ∈ hsAll := hs_in 220 (by decide +kernel) (by decide +kernel)
set_option maxRecDepth 100000 in
theorem w_code_X1_becomeShifted : Cond.code yX1_becomeShifted cX1_becomeShifted 8 none ∈ hsAll := hs_in 222 (by decide +kernel) (by decide +kernel)
set_option maxRecDepth 100000 in
theorem w_methodLink_XL_36 : Cond.methodLink RXL 36 yX0_sweep ∈ hsAll := hs_in 223 (by decide +kernel) (by decide +kernel)
set_option maxRecDepth 100000 in
theorem w_instanceMethod_X0_sweep : Cond.instanceMethod yX0_sweep ∈ hsAll := hs_in 224 (by decide +kernel) (by decide +kernel)
set_option maxRecDepth 100000 in
theorem w_code_X0_sweep : Cond.code yX0_sweep cX0_sweep 7 (some .int) ∈ hsAll := hs_in 226 (by decide +kernel) (by decide +kernel)
set_option maxRecDepth 100000 in
theorem w_methodLink_X0_78 : Cond.methodLink RX0 78 yX1_becomeSwept ∈ hsAll := hs_in 227 (by decide +kernel) (by decide +kernel)
set_option maxRecDepth 100000 in
theorem w_instanceMethod_X1_becomeSwept : Cond.instanceMethod yX1_becomeSwept ∈ hsAll := hs_in 228 (by decide +kernel) (by decide +kernel)
set_option maxRecDepth 100000 in
theorem w_code_X1_becomeSwept : Cond.code yX1_becomeSwept cX1_becomeSwept 10 none ∈ hsAll := hs_in 230 (by decide +kernel) (by decide +kernel)
set_option maxRecDepth 100000 in
theorem w_methodLink_XL_41 : Cond.methodLink RXL 41 yX0_undo ∈ hsAll := hs_in 231 (by decide +kernel) (by decide +kernel)
set_option maxRecDepth 100000 in
theorem w_instanceMethod_X0_undo : Cond.instanceMethod yX0_undo ∈ hsAll := hs_in 232 (by decide +kernel) (by decide +kernel)
set_option maxRecDepth 100000 in
theorem w_code_X0_undo : Cond.code yX0_undo cX0_undo 1 (some .int) ∈ hsAll := hs_in 234 (by decide +kernel) (by decide +kernel)
set_option maxRecDepth 100000 in
theorem w_methodLink_X0_82 : Cond.methodLink RX0 82 yX2_takeBack ∈ hsAll := hs_in 235 (by decide +kernel) (by decide +kernel)
set_option maxRecDepth 100000 in
theorem w_instanceMethod_X2_takeBack : Cond.instanceMethod yX2_takeBack ∈ hsAll := hs_in 236 (by decide +kernel) (by decide +kernel)
set_option maxRecDepth 100000 in
theorem w_code_X2_takeBack : Cond.code yX2_takeBack cX2_takeBack 2 (some .int) ∈ hsAll := hs_in 238 (by decide +kernel) (by decide +kernel)
set_option maxRecDepth 100000 in
theorem w_methodLink_X2_32 : Cond.methodLink RX2 32 yX2_exchange ∈ hsAll := hs_in 239 (by decide +kernel) (by decide +kernel)
set_option maxRecDepth 100000 in
theorem w_instanceMethod_X2_exchange : Cond.instanceMethod yX2_exchange ∈ hsAll := hs_in 241 (by decide +kernel) (by decide +kernel)
set_option maxRecDepth 100000 in
theorem w_code_X2_exchange : Cond.code yX2_exchange cX2_exchange 5 (some .int) ∈ hsAll := hs_in 242 (by decide +kernel) (by decide +kernel)
set_option maxRecDepth 100000 in
theorem w_methodLink_XL_46 : Cond.methodLink RXL 46 yX0_redo ∈ hsAll := hs_in 243 (by decide +kernel) (by decide +kernel)
set_option maxRecDepth 100000 in
theorem w_instanceMethod_X0_redo : Cond.instanceMethod yX0_redo ∈ hsAll := hs_in 244 (by decide +kernel) (by decide +kernel)
set_option maxRecDepth 100000 in
theorem w_code_X0_redo : Cond.code yX0_redo cX0_redo 1 (some .int) ∈ hsAll := hs_in 246 (by decide +kernel) (by decide +kernel)
set_option maxRecDepth 100000 in
theorem w_methodLink_X0_86 : Cond.methodLink RX0 86 yX2_doAgain ∈ hsAll := hs_in 247 (by decide +kernel) (by decide +kernel)
set_option maxRecDepth 100000 in
theorem w_instanceMethod_X2_doAgain : Cond.instanceMethod yX2_doAgain ∈ hsAll := hs_in 248 (by decide +kernel) (by decide +kernel)
set_option maxRecDepth 100000 in
theorem w_code_X2_doAgain : Cond.code yX2_doAgain cX2_doAgain 3 (some .int) ∈ hsAll := hs_in 250 (by decide +kernel) (by decide +kernel)
set_option maxRecDepth 100000 in
theorem w_methodLink_XL_50 : Cond.methodLink RXL 50 yX0_volume ∈ hsAll := hs_in 251 (by decide +kernel) (by decide +kernel)
set_option maxRecDepth 100000 in
theorem w_instanceMethod_X0_volume : Cond.instanceMethod yX0_volume ∈ hsAll := hs_in 252 (by decide +kernel) (by decide +kernel)
set_option maxRecDepth 100000 in
theorem w_code_X0_volume : Cond.code yX0_volume cX0_volume 2 (some .int) ∈ hsAll := hs_in 254 (by decide +kernel) (by decide +kernel)
set_option maxRecDepth 100000 in
theorem w_methodLink_XL_55 : Cond.methodLink RXL 55 yX0_sides ∈ hsAll := hs_in 255 (by decide +kernel) (by decide +kernel)
set_option maxRecDepth 100000 in
theorem w_instanceMethod_X0_sides : Cond.instanceMethod yX0_sides ∈ hsAll := hs_in 256 (by decide +kernel) (by decide +kernel)
set_option maxRecDepth 100000 in
theorem w_code_X0_sides : Cond.code yX0_sides cX0_sides 2 (some .int) ∈ hsAll := hs_in 258 (by decide +kernel) (by decide +kernel)
set_option maxRecDepth 100000 in
theorem w_methodLink_X0_93 : Cond.methodLink RX0 93 yX1_countSides ∈ hsAll := hs_in 259 (by decide +kernel) (by decide +kernel)
set_option maxRecDepth 100000 in
theorem w_instanceMethod_X1_countSides : Cond.instanceMethod yX1_countSides ∈ hsAll := hs_in 260 (by decide +kernel) (by decide +kernel)
set_option maxRecDepth 100000 in
theorem w_code_X1_countSides : Cond.code yX1_countSides cX1_countSides 5 (some .int) ∈ hsAll := hs_in 262 (by decide +kernel) (by decide +kernel)
set_option maxRecDepth 100000 in
theorem w_methodLink_XL_59 : Cond.methodLink RXL 59 yX0_edges ∈ hsAll := hs_in 263 (by decide +kernel) (by decide +kernel)
set_option maxRecDepth 100000 in
theorem w_instanceMethod_X0_edges : Cond.instanceMethod yX0_edges ∈ hsAll := hs_in 264 (by decide +kernel) (by decide +kernel)
set_option maxRecDepth 100000 in
theorem w_code_X0_edges : Cond.code yX0_edges cX0_edges 2 (some .int) ∈ hsAll := hs_in 266 (by decide +kernel) (by decide +kernel)
set_option maxRecDepth 100000 in
theorem w_methodLink_X0_96 : Cond.methodLink RX0 96 yX1_countEdges ∈ hsAll := hs_in 267 (by decide +kernel) (by decide +kernel)
set_option maxRecDepth 100000 in
theorem w_instanceMethod_X1_countEdges : Cond.instanceMethod yX1_countEdges ∈ hsAll := hs_in 268 (by decide +kernel) (by decide +kernel)
set_option maxRecDepth 100000 in
theorem w_code_X1_countEdges : Cond.code yX1_countEdges cX1_countEdges 8 (some .int) ∈ hsAll := hs_in 270 (by decide +kernel) (by decide +kernel)
set_option maxRecDepth 100000 in
theorem w_static_X0_edgesBetween : Cond.static yX0_edgesBetween ∈ hsAll := hs_in 272 (by decide +kernel) (by decide +kernel)
set_option maxRecDepth 100000 in
theorem w_code_X0_edgesBetween : Cond.code yX0_edgesBetween cX0_edgesBetween 2 (some .int) ∈ hsAll := hs_in 273 (by decide +kernel) (by decide +kernel)
set_option maxRecDepth 100000 in
theorem w_methodLink_X0_163 : Cond.methodLink RX0 163 yX0_edgesAmong ∈ hsAll := hs_in 274 (by decide +kernel) (by decide +kernel)
set_option maxRecDepth 100000 in
theorem w_static_X0_edgesAmong : Cond.static yX0_edgesAmong ∈ hsAll := hs_in 275 (by decide +kernel) (by decide +kernel)
set_option maxRecDepth 100000 in
theorem w_code_X0_edgesAmong : Cond.code yX0_edgesAmong cX0_edgesAmong 4 (some .int) ∈ hsAll := hs_in 276 (by decide +kernel) (by decide +kernel)
set_option maxRecDepth 100000 in
theorem w_methodLink_XL_63 : Cond.methodLink RXL 63 yX0_pieces ∈ hsAll := hs_in 278 (by decide +kernel) (by decide +kernel)
set_option maxRecDepth 100000 in
theorem w_instanceMethod_X0_pieces : Cond.instanceMethod yX0_pieces ∈ hsAll := hs_in 279 (by decide +kernel) (by decide +kernel)
set_option maxRecDepth 100000 in
theorem w_code_X0_pieces : Cond.code yX0_pieces cX0_pieces 2 (some .int) ∈ hsAll := hs_in 281 (by decide +kernel) (by decide +kernel)
set_option maxRecDepth 100000 in
theorem w_methodLink_X0_99 : Cond.methodLink RX0 99 yX3_countPieces ∈ hsAll := hs_in 282 (by decide +kernel) (by decide +kernel)
set_option maxRecDepth 100000 in
theorem w_instanceMethod_X3_countPieces : Cond.instanceMethod yX3_countPieces ∈ hsAll := hs_in 283 (by decide +kernel) (by decide +kernel)
set_option maxRecDepth 100000 in
theorem w_code_X3_countPieces : Cond.code yX3_countPieces cX3_countPieces 3 (some .int) ∈ hsAll := hs_in 285 (by decide +kernel) (by decide +kernel)
set_option maxRecDepth 100000 in
theorem w_methodLink_X3_23 : Cond.methodLink RX3 23 yX3_countLeft ∈ hsAll := hs_in 286 (by decide +kernel) (by decide +kernel)
set_option maxRecDepth 100000 in
theorem w_instanceMethod_X3_countLeft : Cond.instanceMethod yX3_countLeft ∈ hsAll := hs_in 288 (by decide +kernel) (by decide +kernel)
set_option maxRecDepth 100000 in
theorem w_code_X3_countLeft : Cond.code yX3_countLeft cX3_countLeft 4 (some .int) ∈ hsAll := hs_in 289 (by decide +kernel) (by decide +kernel)
set_option maxRecDepth 100000 in
theorem w_methodLink_X3_41 : Cond.methodLink RX3 41 yX3_countFrom ∈ hsAll := hs_in 290 (by decide +kernel) (by decide +kernel)
set_option maxRecDepth 100000 in
theorem w_instanceMethod_X3_countFrom : Cond.instanceMethod yX3_countFrom ∈ hsAll := hs_in 292 (by decide +kernel) (by decide +kernel)
set_option maxRecDepth 100000 in
theorem w_code_X3_countFrom : Cond.code yX3_countFrom cX3_countFrom 5 (some .int) ∈ hsAll := hs_in 293 (by decide +kernel) (by decide +kernel)
set_option maxRecDepth 100000 in
theorem w_methodLink_X3_34 : Cond.methodLink RX3 34 yX3_take ∈ hsAll := hs_in 294 (by decide +kernel) (by decide +kernel)
set_option maxRecDepth 100000 in
theorem w_instanceMethod_X3_take : Cond.instanceMethod yX3_take ∈ hsAll := hs_in 296 (by decide +kernel) (by decide +kernel)
set_option maxRecDepth 100000 in
theorem w_code_X3_take : Cond.code yX3_take cX3_take 6 none ∈ hsAll := hs_in 297 (by decide +kernel) (by decide +kernel)
set_option maxRecDepth 100000 in
theorem w_methodLink_X3_38 : Cond.methodLink RX3 38 yX3_spread ∈ hsAll := hs_in 299 (by decide +kernel) (by decide +kernel)
set_option maxRecDepth 100000 in
theorem w_instanceMethod_X3_spread : Cond.instanceMethod yX3_spread ∈ hsAll := hs_in 301 (by decide +kernel) (by decide +kernel)
set_option maxRecDepth 100000 in
theorem w_code_X3_spread : Cond.code yX3_spread cX3_spread 6 none ∈ hsAll := hs_in 302 (by decide +kernel) (by decide +kernel)
set_option maxRecDepth 100000 in
theorem w_methodLink_XL_67 : Cond.methodLink RXL 67 yX0_hollows ∈ hsAll := hs_in 303 (by decide +kernel) (by decide +kernel)
set_option maxRecDepth 100000 in
theorem w_instanceMethod_X0_hollows : Cond.instanceMethod yX0_hollows ∈ hsAll := hs_in 304 (by decide +kernel) (by decide +kernel)
set_option maxRecDepth 100000 in
theorem w_code_X0_hollows : Cond.code yX0_hollows cX0_hollows 2 (some .int) ∈ hsAll := hs_in 306 (by decide +kernel) (by decide +kernel)
set_option maxRecDepth 100000 in
theorem w_methodLink_X0_103 : Cond.methodLink RX0 103 yX3_countHollows ∈ hsAll := hs_in 307 (by decide +kernel) (by decide +kernel)
set_option maxRecDepth 100000 in
theorem w_instanceMethod_X3_countHollows : Cond.instanceMethod yX3_countHollows ∈ hsAll := hs_in 308 (by decide +kernel) (by decide +kernel)
set_option maxRecDepth 100000 in
theorem w_code_X3_countHollows : Cond.code yX3_countHollows cX3_countHollows 3 (some .int) ∈ hsAll := hs_in 310 (by decide +kernel) (by decide +kernel)
set_option maxRecDepth 100000 in
theorem w_methodLink_X3_27 : Cond.methodLink RX3 27 yX3_dropFromBorder ∈ hsAll := hs_in 311 (by decide +kernel) (by decide +kernel)
set_option maxRecDepth 100000 in
theorem w_instanceMethod_X3_dropFromBorder : Cond.instanceMethod yX3_dropFromBorder ∈ hsAll := hs_in 313 (by decide +kernel) (by decide +kernel)
set_option maxRecDepth 100000 in
theorem w_code_X3_dropFromBorder : Cond.code yX3_dropFromBorder cX3_dropFromBorder 4 none ∈ hsAll := hs_in 314 (by decide +kernel) (by decide +kernel)
set_option maxRecDepth 100000 in
theorem w_methodLink_XL_71 : Cond.methodLink RXL 71 yX0_moment ∈ hsAll := hs_in 315 (by decide +kernel) (by decide +kernel)
set_option maxRecDepth 100000 in
theorem w_instanceMethod_X0_moment : Cond.instanceMethod yX0_moment ∈ hsAll := hs_in 316 (by decide +kernel) (by decide +kernel)
set_option maxRecDepth 100000 in
theorem w_code_X0_moment : Cond.code yX0_moment cX0_moment 5 (some .int) ∈ hsAll := hs_in 318 (by decide +kernel) (by decide +kernel)
set_option maxRecDepth 100000 in
theorem w_methodLink_X0_106 : Cond.methodLink RX0 106 yX1_countLayer ∈ hsAll := hs_in 319 (by decide +kernel) (by decide +kernel)
set_option maxRecDepth 100000 in
theorem w_methodLink_XL_75 : Cond.methodLink RXL 75 yX0_extent ∈ hsAll := hs_in 320 (by decide +kernel) (by decide +kernel)
set_option maxRecDepth 100000 in
theorem w_instanceMethod_X0_extent : Cond.instanceMethod yX0_extent ∈ hsAll := hs_in 321 (by decide +kernel) (by decide +kernel)
set_option maxRecDepth 100000 in
theorem w_code_X0_extent : Cond.code yX0_extent cX0_extent 4 (some .int) ∈ hsAll := hs_in 323 (by decide +kernel) (by decide +kernel)
set_option maxRecDepth 100000 in
theorem w_methodLink_XL_80 : Cond.methodLink RXL 80 yX0_inside ∈ hsAll := hs_in 324 (by decide +kernel) (by decide +kernel)
set_option maxRecDepth 100000 in
theorem w_instanceMethod_X0_inside : Cond.instanceMethod yX0_inside ∈ hsAll := hs_in 325 (by decide +kernel) (by decide +kernel)
set_option maxRecDepth 100000 in
theorem w_code_X0_inside : Cond.code yX0_inside cX0_inside 6 (some .int) ∈ hsAll := hs_in 327 (by decide +kernel) (by decide +kernel)
set_option maxRecDepth 100000 in
theorem w_methodLink_X0_116 : Cond.methodLink RX0 116 yX0_isPlane ∈ hsAll := hs_in 328 (by decide +kernel) (by decide +kernel)
set_option maxRecDepth 100000 in
theorem w_static_X0_isPlane : Cond.static yX0_isPlane ∈ hsAll := hs_in 329 (by decide +kernel) (by decide +kernel)
set_option maxRecDepth 100000 in
theorem w_code_X0_isPlane : Cond.code yX0_isPlane cX0_isPlane 1 (some .boolean) ∈ hsAll := hs_in 330 (by decide +kernel) (by decide +kernel)
set_option maxRecDepth 100000 in
theorem w_methodLink_X0_119 : Cond.methodLink RX0 119 yX1_countAround ∈ hsAll := hs_in 331 (by decide +kernel) (by decide +kernel)
set_option maxRecDepth 100000 in
theorem w_instanceMethod_X1_countAround : Cond.instanceMethod yX1_countAround ∈ hsAll := hs_in 332 (by decide +kernel) (by decide +kernel)
set_option maxRecDepth 100000 in
theorem w_code_X1_countAround : Cond.code yX1_countAround cX1_countAround 4 (some .int) ∈ hsAll := hs_in 334 (by decide +kernel) (by decide +kernel)
set_option maxRecDepth 100000 in
theorem w_methodLink_X1_56 : Cond.methodLink RX1 56 yX1_countPair ∈ hsAll := hs_in 335 (by decide +kernel) (by decide +kernel)
set_option maxRecDepth 100000 in
theorem w_instanceMethod_X1_countPair : Cond.instanceMethod yX1_countPair ∈ hsAll := hs_in 337 (by decide +kernel) (by decide +kernel)
set_option maxRecDepth 100000 in
theorem w_code_X1_countPair : Cond.code yX1_countPair cX1_countPair 4 (some .int) ∈ hsAll := hs_in 338 (by decide +kernel) (by decide +kernel)
set_option maxRecDepth 100000 in
theorem w_methodLink_XL_84 : Cond.methodLink RXL 84 yX0_section ∈ hsAll := hs_in 339 (by decide +kernel) (by decide +kernel)
set_option maxRecDepth 100000 in
theorem w_instanceMethod_X0_section : Cond.instanceMethod yX0_section ∈ hsAll := hs_in 340 (by decide +kernel) (by decide +kernel)
set_option maxRecDepth 100000 in
theorem w_code_X0_section : Cond.code yX0_section cX0_section 4 (some .int) ∈ hsAll := hs_in 342 (by decide +kernel) (by decide +kernel)
set_option maxRecDepth 100000 in
theorem w_methodLink_XL_88 : Cond.methodLink RXL 88 yX0_same ∈ hsAll := hs_in 343 (by decide +kernel) (by decide +kernel)
set_option maxRecDepth 100000 in
theorem w_instanceMethod_X0_same : Cond.instanceMethod yX0_same ∈ hsAll := hs_in 344 (by decide +kernel) (by decide +kernel)
set_option maxRecDepth 100000 in
theorem w_code_X0_same : Cond.code yX0_same cX0_same 3 (some .boolean) ∈ hsAll := hs_in 346 (by decide +kernel) (by decide +kernel)
set_option maxRecDepth 100000 in
theorem w_methodLink_X0_123 : Cond.methodLink RX0 123 yX1_hasCellsOf ∈ hsAll := hs_in 347 (by decide +kernel) (by decide +kernel)
set_option maxRecDepth 100000 in
theorem w_instanceMethod_X1_hasCellsOf : Cond.instanceMethod yX1_hasCellsOf ∈ hsAll := hs_in 348 (by decide +kernel) (by decide +kernel)
set_option maxRecDepth 100000 in
theorem w_code_X1_hasCellsOf : Cond.code yX1_hasCellsOf cX1_hasCellsOf 3 (some .boolean) ∈ hsAll := hs_in 350 (by decide +kernel) (by decide +kernel)
set_option maxRecDepth 100000 in
theorem w_methodLink_XL_93 : Cond.methodLink RXL 93 yX0_depth ∈ hsAll := hs_in 351 (by decide +kernel) (by decide +kernel)
set_option maxRecDepth 100000 in
theorem w_instanceMethod_X0_depth : Cond.instanceMethod yX0_depth ∈ hsAll := hs_in 352 (by decide +kernel) (by decide +kernel)
set_option maxRecDepth 100000 in
theorem w_code_X0_depth : Cond.code yX0_depth cX0_depth 6 (some .int) ∈ hsAll := hs_in 354 (by decide +kernel) (by decide +kernel)
set_option maxRecDepth 100000 in
theorem w_methodLink_X0_127 : Cond.methodLink RX0 127 yX1_columnAlong ∈ hsAll := hs_in 355 (by decide +kernel) (by decide +kernel)
set_option maxRecDepth 100000 in
theorem w_methodLink_X0_130 : Cond.methodLink RX0 130 yX0_depthOf ∈ hsAll := hs_in 356 (by decide +kernel) (by decide +kernel)
set_option maxRecDepth 100000 in
theorem w_static_X0_depthOf : Cond.static yX0_depthOf ∈ hsAll := hs_in 357 (by decide +kernel) (by decide +kernel)
set_option maxRecDepth 100000 in
theorem w_code_X0_depthOf : Cond.code yX0_depthOf cX0_depthOf 2 (some .int) ∈ hsAll := hs_in 358 (by decide +kernel) (by decide +kernel)
set_option maxRecDepth 100000 in
theorem w_methodLink_X0_152 : Cond.methodLink RX0 152 yX5_numberOfLeadingZeros ∈ hsAll := hs_in 359 (by decide +kernel) (by decide +kernel)
set_option maxRecDepth 100000 in
theorem w_static_X5_numberOfLeadingZeros : Cond.static yX5_numberOfLeadingZeros ∈ hsAll := hs_in 360 (by decide +kernel) (by decide +kernel)
set_option maxRecDepth 100000 in
theorem w_code_X5_numberOfLeadingZeros : Cond.code yX5_numberOfLeadingZeros cX5_numberOfLeadingZeros 2 (some .int) ∈ hsAll := hs_in 361 (by decide +kernel) (by decide +kernel)
set_option maxRecDepth 100000 in
theorem w_constant_X5_264 : Cond.constant RX5 264 (65536) ∈ hsAll := hs_in 362 (by decide +kernel) (by decide +kernel)
set_option maxRecDepth 100000 in
theorem w_methodLink_X0_157 : Cond.methodLink RX0 157 yX5_numberOfTrailingZeros ∈ hsAll := hs_in 363 (by decide +kernel) (by decide +kernel)
set_option maxRecDepth 100000 in
theorem w_static_X5_numberOfTrailingZeros : Cond.static yX5_numberOfTrailingZeros ∈ hsAll := hs_in 364 (by decide +kernel) (by decide +kernel)
set_option maxRecDepth 100000 in
theorem w_code_X5_numberOfTrailingZeros : Cond.code yX5_numberOfTrailingZeros cX5_numberOfTrailingZeros 2 (some .int) ∈ hsAll := hs_in 365 (by decide +kernel) (by decide +kernel)
set_option maxRecDepth 100000 in
theorem w_methodLink_XL_98 : Cond.methodLink RXL 98 yX0_stroke ∈ hsAll := hs_in 366 (by decide +kernel) (by decide +kernel)
set_option maxRecDepth 100000 in
theorem w_instanceMethod_X0_stroke : Cond.instanceMethod yX0_stroke ∈ hsAll := hs_in 367 (by decide +kernel) (by decide +kernel)
set_option maxRecDepth 100000 in
theorem w_code_X0_stroke : Cond.code yX0_stroke cX0_stroke 8 (some .int) ∈ hsAll := hs_in 369 (by decide +kernel) (by decide +kernel)
set_option maxRecDepth 100000 in
theorem w_methodLink_X0_134 : Cond.methodLink RX0 134 yX0_isStrokePlace ∈ hsAll := hs_in 370 (by decide +kernel) (by decide +kernel)
set_option maxRecDepth 100000 in
theorem w_static_X0_isStrokePlace : Cond.static yX0_isStrokePlace ∈ hsAll := hs_in 371 (by decide +kernel) (by decide +kernel)
set_option maxRecDepth 100000 in
theorem w_code_X0_isStrokePlace : Cond.code yX0_isStrokePlace cX0_isStrokePlace 3 (some .boolean) ∈ hsAll := hs_in 372 (by decide +kernel) (by decide +kernel)
set_option maxRecDepth 100000 in
theorem w_methodLink_X0_138 : Cond.methodLink RX0 138 yX0_strokeBetween ∈ hsAll := hs_in 373 (by decide +kernel) (by decide +kernel)
set_option maxRecDepth 100000 in
theorem w_static_X0_strokeBetween : Cond.static yX0_strokeBetween ∈ hsAll := hs_in 374 (by decide +kernel) (by decide +kernel)
set_option maxRecDepth 100000 in
theorem w_code_X0_strokeBetween : Cond.code yX0_strokeBetween cX0_strokeBetween 3 (some .int) ∈ hsAll := hs_in 375 (by decide +kernel) (by decide +kernel)
set_option maxRecDepth 100000 in
theorem w_methodLink_X0_160 : Cond.methodLink RX0 160 yX0_edgesBetween ∈ hsAll := hs_in 376 (by decide +kernel) (by decide +kernel)
set_option maxRecDepth 100000 in
theorem w_methodLink_XL_103 : Cond.methodLink RXL 103 yX0_strokes ∈ hsAll := hs_in 377 (by decide +kernel) (by decide +kernel)
set_option maxRecDepth 100000 in
theorem w_instanceMethod_X0_strokes : Cond.instanceMethod yX0_strokes ∈ hsAll := hs_in 378 (by decide +kernel) (by decide +kernel)
set_option maxRecDepth 100000 in
theorem w_code_X0_strokes : Cond.code yX0_strokes cX0_strokes 9 (some .int) ∈ hsAll := hs_in 380 (by decide +kernel) (by decide +kernel)
set_option maxRecDepth 100000 in
theorem w_methodLink_X0_142 : Cond.methodLink RX0 142 yX1_becomeView ∈ hsAll := hs_in 381 (by decide +kernel) (by decide +kernel)
set_option maxRecDepth 100000 in
theorem w_instanceMethod_X1_becomeView : Cond.instanceMethod yX1_becomeView ∈ hsAll := hs_in 382 (by decide +kernel) (by decide +kernel)
set_option maxRecDepth 100000 in
theorem w_code_X1_becomeView : Cond.code yX1_becomeView cX1_becomeView 5 none ∈ hsAll := hs_in 384 (by decide +kernel) (by decide +kernel)
set_option maxRecDepth 100000 in
theorem w_methodLink_X0_145 : Cond.methodLink RX0 145 yX1_column ∈ hsAll := hs_in 385 (by decide +kernel) (by decide +kernel)
set_option maxRecDepth 100000 in
theorem w_classLink_XL_10 : Cond.classLink RXL 10 RX4 ∈ hsAll := hs_in 386 (by decide +kernel) (by decide +kernel)
set_option maxRecDepth 100000 in
theorem w_instantiable_X4 : Cond.instantiable RX4 8 ∈ hsAll := hs_in 387 (by decide +kernel) (by decide +kernel)
set_option maxRecDepth 100000 in
theorem w_methodLink_XL_12 : Cond.methodLink RXL 12 yX4_init ∈ hsAll := hs_in 388 (by decide +kernel) (by decide +kernel)
set_option maxRecDepth 100000 in
theorem w_instanceMethod_X4_init : Cond.instanceMethod yX4_init ∈ hsAll := hs_in 389 (by decide +kernel) (by decide +kernel)
set_option maxRecDepth 100000 in
theorem w_code_X4_init : Cond.code yX4_init cX4_init 1 none ∈ hsAll := hs_in 390 (by decide +kernel) (by decide +kernel)
set_option maxRecDepth 100000 in
theorem w_methodLink_X4_1 : Cond.methodLink RX4 1 objectInit ∈ hsAll := hs_in 391 (by decide +kernel) (by decide +kernel)
set_option maxRecDepth 100000 in
theorem w_fieldLink_X4_7 : Cond.fieldLink RX4 7 "HewnSolidsModel" "bits" "[I" ∈ hsAll := hs_in 392 (by decide +kernel) (by decide +kernel)
set_option maxRecDepth 100000 in
theorem w_fieldLink_X4_30 : Cond.fieldLink RX4 30 "HewnSolidsModel" "done" "I" ∈ hsAll := hs_in 393 (by decide +kernel) (by decide +kernel)
set_option maxRecDepth 100000 in
theorem w_fieldLink_X4_38 : Cond.fieldLink RX4 38 "HewnSolidsModel" "all" "I" ∈ hsAll := hs_in 394 (by decide +kernel) (by decide +kernel)
set_option maxRecDepth 100000 in
theorem w_fieldLink_X4_13 : Cond.fieldLink RX4 13 "HewnSolidsModel" "whose" "[I" ∈ hsAll := hs_in 395 (by decide +kernel) (by decide +kernel)
set_option maxRecDepth 100000 in
theorem w_fieldLink_X4_16 : Cond.fieldLink RX4 16 "HewnSolidsModel" "seen" "[I" ∈ hsAll := hs_in 396 (by decide +kernel) (by decide +kernel)
set_option maxRecDepth 100000 in
theorem w_fieldLink_X4_73 : Cond.fieldLink RX4 73 "HewnSolidsModel" "top" "I" ∈ hsAll := hs_in 397 (by decide +kernel) (by decide +kernel)
set_option maxRecDepth 100000 in
theorem w_fieldLink_X4_19 : Cond.fieldLink RX4 19 "HewnSolidsModel" "pile" "[I" ∈ hsAll := hs_in 398 (by decide +kernel) (by decide +kernel)
set_option maxRecDepth 100000 in
theorem w_fieldLink_X4_76 : Cond.fieldLink RX4 76 "HewnSolidsModel" "border" "Z" ∈ hsAll := hs_in 399 (by decide +kernel) (by decide +kernel)
set_option maxRecDepth 100000 in
theorem w_methodLink_XL_45 : Cond.methodLink RXL 45 yX4_undo ∈ hsAll := hs_in 417 (by decide +kernel) (by decide +kernel)
set_option maxRecDepth 100000 in
theorem w_instanceMethod_X4_undo : Cond.instanceMethod yX4_undo ∈ hsAll := hs_in 418 (by decide +kernel) (by decide +kernel)
set_option maxRecDepth 100000 in
theorem w_code_X4_undo : Cond.code yX4_undo cX4_undo 1 (some .int) ∈ hsAll := hs_in 420 (by decide +kernel) (by decide +kernel)
set_option maxRecDepth 100000 in
theorem w_methodLink_X4_34 : Cond.methodLink RX4 34 yX4_copy ∈ hsAll := hs_in 421 (by decide +kernel) (by decide +kernel)
set_option maxRecDepth 100000 in
theorem w_instanceMethod_X4_copy : Cond.instanceMethod yX4_copy ∈ hsAll := hs_in 423 (by decide +kernel) (by decide +kernel)
set_option maxRecDepth 100000 in
theorem w_code_X4_copy : Cond.code yX4_copy cX4_copy 4 none ∈ hsAll := hs_in 424 (by decide +kernel) (by decide +kernel)
set_option maxRecDepth 100000 in
theorem w_methodLink_XL_49 : Cond.methodLink RXL 49 yX4_redo ∈ hsAll := hs_in 425 (by decide +kernel) (by decide +kernel)
set_option maxRecDepth 100000 in
theorem w_instanceMethod_X4_redo : Cond.instanceMethod yX4_redo ∈ hsAll := hs_in 426 (by decide +kernel) (by decide +kernel)
set_option maxRecDepth 100000 in
theorem w_code_X4_redo : Cond.code yX4_redo cX4_redo 1 (some .int) ∈ hsAll := hs_in 428 (by decide +kernel) (by decide +kernel)
set_option maxRecDepth 100000 in
theorem w_methodLink_XL_17 : Cond.methodLink RXL 17 yX4_box ∈ hsAll := hs_in 429 (by decide +kernel) (by decide +kernel)
set_option maxRecDepth 100000 in
theorem w_instanceMethod_X4_box : Cond.instanceMethod yX4_box ∈ hsAll := hs_in 430 (by decide +kernel) (by decide +kernel)
set_option maxRecDepth 100000 in
theorem w_code_X4_box : Cond.code yX4_box cX4_box 10 (some .int) ∈ hsAll := hs_in 432 (by decide +kernel) (by decide +kernel)
set_option maxRecDepth 100000 in
theorem w_methodLink_X4_45 : Cond.methodLink RX4 45 yX4_isSolid ∈ hsAll := hs_in 433 (by decide +kernel) (by decide +kernel)
set_option maxRecDepth 100000 in
theorem w_static_X4_isSolid : Cond.static yX4_isSolid ∈ hsAll := hs_in 434 (by decide +kernel) (by decide +kernel)
set_option maxRecDepth 100000 in
theorem w_code_X4_isSolid : Cond.code yX4_isSolid cX4_isSolid 1 (some .boolean) ∈ hsAll := hs_in 435 (by decide +kernel) (by decide +kernel)
set_option maxRecDepth 100000 in
theorem w_methodLink_X4_22 : Cond.methodLink RX4 22 yX4_isIn ∈ hsAll := hs_in 436 (by decide +kernel) (by decide +kernel)
set_option maxRecDepth 100000 in
theorem w_static_X4_isIn : Cond.static yX4_isIn ∈ hsAll := hs_in 437 (by decide +kernel) (by decide +kernel)
set_option maxRecDepth 100000 in
theorem w_code_X4_isIn : Cond.code yX4_isIn cX4_isIn 2 (some .boolean) ∈ hsAll := hs_in 438 (by decide +kernel) (by decide +kernel)
set_option maxRecDepth 100000 in
theorem w_methodLink_X4_49 : Cond.methodLink RX4 49 yX4_clearDraft ∈ hsAll := hs_in 439 (by decide +kernel) (by decide +kernel)
set_option maxRecDepth 100000 in
theorem w_instanceMethod_X4_clearDraft : Cond.instanceMethod yX4_clearDraft ∈ hsAll := hs_in 441 (by decide +kernel) (by decide +kernel)
set_option maxRecDepth 100000 in
theorem w_code_X4_clearDraft : Cond.code yX4_clearDraft cX4_clearDraft 2 none ∈ hsAll := hs_in 442 (by decide +kernel) (by decide +kernel)
set_option maxRecDepth 100000 in
theorem w_methodLink_X4_52 : Cond.methodLink RX4 52 yX4_put ∈ hsAll := hs_in 443 (by decide +kernel) (by decide +kernel)
set_option maxRecDepth 100000 in
theorem w_instanceMethod_X4_put : Cond.instanceMethod yX4_put ∈ hsAll := hs_in 445 (by decide +kernel) (by decide +kernel)
set_option maxRecDepth 100000 in
theorem w_code_X4_put : Cond.code yX4_put cX4_put 4 none ∈ hsAll := hs_in 446 (by decide +kernel) (by decide +kernel)
set_option maxRecDepth 100000 in
theorem w_methodLink_X4_56 : Cond.methodLink RX4 56 yX4_step ∈ hsAll := hs_in 447 (by decide +kernel) (by decide +kernel)
set_option maxRecDepth 100000 in
theorem w_instanceMethod_X4_step : Cond.instanceMethod yX4_step ∈ hsAll := hs_in 449 (by decide +kernel) (by decide +kernel)
set_option maxRecDepth 100000 in
theorem w_code_X4_step : Cond.code yX4_step cX4_step 3 (some .int) ∈ hsAll := hs_in 450 (by decide +kernel) (by decide +kernel)
set_option maxRecDepth 100000 in
theorem w_methodLink_X4_41 : Cond.methodLink RX4 41 yX4_count ∈ hsAll := hs_in 451 (by decide +kernel) (by decide +kernel)
set_option maxRecDepth 100000 in
theorem w_instanceMethod_X4_count : Cond.instanceMethod yX4_count ∈ hsAll := hs_in 453 (by decide +kernel) (by decide +kernel)
set_option maxRecDepth 100000 in
theorem w_code_X4_count : Cond.code yX4_count cX4_count 4 (some .int) ∈ hsAll := hs_in 454 (by decide +kernel) (by decide +kernel)
set_option maxRecDepth 100000 in
theorem w_methodLink_XL_22 : Cond.methodLink RXL 22 yX4_join ∈ hsAll := hs_in 455 (by decide +kernel) (by decide +kernel)
set_option maxRecDepth 100000 in
theorem w_instanceMethod_X4_join : Cond.instanceMethod yX4_join ∈ hsAll := hs_in 456 (by decide +kernel) (by decide +kernel)
set_option maxRecDepth 100000 in
theorem w_code_X4_join : Cond.code yX4_join cX4_join 9 (some .int) ∈ hsAll := hs_in 458 (by decide +kernel) (by decide +kernel)
set_option maxRecDepth 100000 in
theorem w_methodLink_X4_26 : Cond.methodLink RX4 26 yX4_has ∈ hsAll := hs_in 459 (by decide +kernel) (by decide +kernel)
set_option maxRecDepth 100000 in
theorem w_instanceMethod_X4_has : Cond.instanceMethod yX4_has ∈ hsAll := hs_in 461 (by decide +kernel) (by decide +kernel)
set_option maxRecDepth 100000 in
theorem w_code_X4_has : Cond.code yX4_has cX4_has 5 (some .boolean) ∈ hsAll := hs_in 462 (by decide +kernel) (by decide +kernel)
set_option maxRecDepth 100000 in
theorem w_methodLink_XL_27 : Cond.methodLink RXL 27 yX4_turn ∈ hsAll := hs_in 463 (by decide +kernel) (by decide +kernel)
set_option maxRecDepth 100000 in
theorem w_instanceMethod_X4_turn : Cond.instanceMethod yX4_turn ∈ hsAll := hs_in 464 (by decide +kernel) (by decide +kernel)
set_option maxRecDepth 100000 in
theorem w_code_X4_turn : Cond.code yX4_turn cX4_turn 8 (some .int) ∈ hsAll := hs_in 466 (by decide +kernel) (by decide +kernel)
set_option maxRecDepth 100000 in
theorem w_methodLink_X4_59 : Cond.methodLink RX4 59 yX4_isAxis ∈ hsAll := hs_in 467 (by decide +kernel) (by decide +kernel)
set_option maxRecDepth 100000 in
theorem w_static_X4_isAxis : Cond.static yX4_isAxis ∈ hsAll := hs_in 468 (by decide +kernel) (by decide +kernel)
set_option maxRecDepth 100000 in
theorem w_code_X4_isAxis : Cond.code yX4_isAxis cX4_isAxis 1 (some .boolean) ∈ hsAll := hs_in 469 (by decide +kernel) (by decide +kernel)
set_option maxRecDepth 100000 in
theorem w_methodLink_XL_31 : Cond.methodLink RXL 31 yX4_mirror ∈ hsAll := hs_in 470 (by decide +kernel) (by decide +kernel)
set_option maxRecDepth 100000 in
theorem w_instanceMethod_X4_mirror : Cond.instanceMethod yX4_mirror ∈ hsAll := hs_in 471 (by decide +kernel) (by decide +kernel)
set_option maxRecDepth 100000 in
theorem w_code_X4_mirror : Cond.code yX4_mirror cX4_mirror 7 (some .int) ∈ hsAll := hs_in 473 (by decide +kernel) (by decide +kernel)
set_option maxRecDepth 100000 in
theorem w_methodLink_XL_35 : Cond.methodLink RXL 35 yX4_shift ∈ hsAll := hs_in 474 (by decide +kernel) (by decide +kernel)
set_option maxRecDepth 100000 in
theorem w_instanceMethod_X4_shift : Cond.instanceMethod yX4_shift ∈ hsAll := hs_in 475 (by decide +kernel) (by decide +kernel)
set_option maxRecDepth 100000 in
theorem w_code_X4_shift : Cond.code yX4_shift cX4_shift 9 (some .int) ∈ hsAll := hs_in 477 (by decide +kernel) (by decide +kernel)
set_option maxRecDepth 100000 in
theorem w_methodLink_X4_62 : Cond.methodLink RX4 62 yX4_shifted ∈ hsAll := hs_in 478 (by decide +kernel) (by decide +kernel)
set_option maxRecDepth 100000 in
theorem w_static_X4_shifted : Cond.static yX4_shifted ∈ hsAll := hs_in 479 (by decide +kernel) (by decide +kernel)
set_option maxRecDepth 100000 in
theorem w_code_X4_shifted : Cond.code yX4_shifted cX4_shifted 2 (some .int) ∈ hsAll := hs_in 480 (by decide +kernel) (by decide +kernel)
set_option maxRecDepth 100000 in
theorem w_methodLink_XL_40 : Cond.methodLink RXL 40 yX4_sweep ∈ hsAll := hs_in 481 (by decide +kernel) (by decide +kernel)
set_option maxRecDepth 100000 in
theorem w_instanceMethod_X4_sweep : Cond.instanceMethod yX4_sweep ∈ hsAll := hs_in 482 (by decide +kernel) (by decide +kernel)
set_option maxRecDepth 100000 in
theorem w_code_X4_sweep : Cond.code yX4_sweep cX4_sweep 10 (some .int) ∈ hsAll := hs_in 484 (by decide +kernel) (by decide +kernel)
set_option maxRecDepth 100000 in
theorem w_methodLink_X4_66 : Cond.methodLink RX4 66 yX4_hasBy ∈ hsAll := hs_in 485 (by decide +kernel) (by decide +kernel)
set_option maxRecDepth 100000 in
theorem w_instanceMethod_X4_hasBy : Cond.instanceMethod yX4_hasBy ∈ hsAll := hs_in 487 (by decide +kernel) (by decide +kernel)
set_option maxRecDepth 100000 in
theorem w_code_X4_hasBy : Cond.code yX4_hasBy cX4_hasBy 6 (some .boolean) ∈ hsAll := hs_in 488 (by decide +kernel) (by decide +kernel)
set_option maxRecDepth 100000 in
theorem w_methodLink_XL_54 : Cond.methodLink RXL 54 yX4_volume ∈ hsAll := hs_in 489 (by decide +kernel) (by decide +kernel)
set_option maxRecDepth 100000 in
theorem w_instanceMethod_X4_volume : Cond.instanceMethod yX4_volume ∈ hsAll := hs_in 490 (by decide +kernel) (by decide +kernel)
set_option maxRecDepth 100000 in
theorem w_code_X4_volume : Cond.code yX4_volume cX4_volume 2 (some .int) ∈ hsAll := hs_in 492 (by decide +kernel) (by decide +kernel)
set_option maxRecDepth 100000 in
theorem w_methodLink_XL_58 : Cond.methodLink RXL 58 yX4_sides ∈ hsAll := hs_in 493 (by decide +kernel) (by decide +kernel)
set_option maxRecDepth 100000 in
theorem w_instanceMethod_X4_sides : Cond.instanceMethod yX4_sides ∈ hsAll := hs_in 494 (by decide +kernel) (by decide +kernel)
set_option maxRecDepth 100000 in
theorem w_code_X4_sides : Cond.code yX4_sides cX4_sides 7 (some .int) ∈ hsAll := hs_in 496 (by decide +kernel) (by decide +kernel)
set_option maxRecDepth 100000 in
theorem w_methodLink_XL_62 : Cond.methodLink RXL 62 yX4_edges ∈ hsAll := hs_in 497 (by decide +kernel) (by decide +kernel)
set_option maxRecDepth 100000 in
theorem w_instanceMethod_X4_edges : Cond.instanceMethod yX4_edges ∈ hsAll := hs_in 498 (by decide +kernel) (by decide +kernel)
set_option maxRecDepth 100000 in
theorem w_code_X4_edges : Cond.code yX4_edges cX4_edges 7 (some .int) ∈ hsAll := hs_in 500 (by decide +kernel) (by decide +kernel)
set_option maxRecDepth 100000 in
theorem w_methodLink_X4_70 : Cond.methodLink RX4 70 yX4_isEdge ∈ hsAll := hs_in 501 (by decide +kernel) (by decide +kernel)
set_option maxRecDepth 100000 in
theorem w_instanceMethod_X4_isEdge : Cond.instanceMethod yX4_isEdge ∈ hsAll := hs_in 503 (by decide +kernel) (by decide +kernel)
set_option maxRecDepth 100000 in
theorem w_code_X4_isEdge : Cond.code yX4_isEdge cX4_isEdge 11 (some .boolean) ∈ hsAll := hs_in 504 (by decide +kernel) (by decide +kernel)
set_option maxRecDepth 100000 in
theorem w_methodLink_XL_66 : Cond.methodLink RXL 66 yX4_pieces ∈ hsAll := hs_in 505 (by decide +kernel) (by decide +kernel)
set_option maxRecDepth 100000 in
theorem w_instanceMethod_X4_pieces : Cond.instanceMethod yX4_pieces ∈ hsAll := hs_in 506 (by decide +kernel) (by decide +kernel)
set_option maxRecDepth 100000 in
theorem w_code_X4_pieces : Cond.code yX4_pieces cX4_pieces 2 (some .int) ∈ hsAll := hs_in 508 (by decide +kernel) (by decide +kernel)
set_option maxRecDepth 100000 in
theorem w_methodLink_X4_91 : Cond.methodLink RX4 91 yX4_sets ∈ hsAll := hs_in 509 (by decide +kernel) (by decide +kernel)
set_option maxRecDepth 100000 in
theorem w_instanceMethod_X4_sets : Cond.instanceMethod yX4_sets ∈ hsAll := hs_in 511 (by decide +kernel) (by decide +kernel)
set_option maxRecDepth 100000 in
theorem w_code_X4_sets : Cond.code yX4_sets cX4_sets 5 (some .int) ∈ hsAll := hs_in 512 (by decide +kernel) (by decide +kernel)
set_option maxRecDepth 100000 in
theorem w_methodLink_X4_83 : Cond.methodLink RX4 83 yX4_see ∈ hsAll := hs_in 513 (by decide +kernel) (by decide +kernel)
set_option maxRecDepth 100000 in
theorem w_instanceMethod_X4_see : Cond.instanceMethod yX4_see ∈ hsAll := hs_in 515 (by decide +kernel) (by decide +kernel)
set_option maxRecDepth 100000 in
theorem w_code_X4_see : Cond.code yX4_see cX4_see 6 none ∈ hsAll := hs_in 516 (by decide +kernel) (by decide +kernel)
set_option maxRecDepth 100000 in
theorem w_methodLink_X4_87 : Cond.methodLink RX4 87 yX4_spread ∈ hsAll := hs_in 517 (by decide +kernel) (by decide +kernel)
set_option maxRecDepth 100000 in
theorem w_instanceMethod_X4_spread : Cond.instanceMethod yX4_spread ∈ hsAll := hs_in 519 (by decide +kernel) (by decide +kernel)
set_option maxRecDepth 100000 in
theorem w_code_X4_spread : Cond.code yX4_spread cX4_spread 6 none ∈ hsAll := hs_in 520 (by decide +kernel) (by decide +kernel)
set_option maxRecDepth 100000 in
theorem w_methodLink_X4_80 : Cond.methodLink RX4 80 yX4_isBorder ∈ hsAll := hs_in 521 (by decide +kernel) (by decide +kernel)
set_option maxRecDepth 100000 in
theorem w_static_X4_isBorder : Cond.static yX4_isBorder ∈ hsAll := hs_in 522 (by decide +kernel) (by decide +kernel)
set_option maxRecDepth 100000 in
theorem w_code_X4_isBorder : Cond.code yX4_isBorder cX4_isBorder 1 (some .boolean) ∈ hsAll := hs_in 523 (by decide +kernel) (by decide +kernel)
set_option maxRecDepth 100000 in
theorem w_methodLink_XL_70 : Cond.methodLink RXL 70 yX4_hollows ∈ hsAll := hs_in 524 (by decide +kernel) (by decide +kernel)
set_option maxRecDepth 100000 in
theorem w_instanceMethod_X4_hollows : Cond.instanceMethod yX4_hollows ∈ hsAll := hs_in 525 (by decide +kernel) (by decide +kernel)
set_option maxRecDepth 100000 in
theorem w_code_X4_hollows : Cond.code yX4_hollows cX4_hollows 2 (some .int) ∈ hsAll := hs_in 527 (by decide +kernel) (by decide +kernel)
set_option maxRecDepth 100000 in
theorem w_methodLink_XL_74 : Cond.methodLink RXL 74 yX4_moment ∈ hsAll := hs_in 528 (by decide +kernel) (by decide +kernel)
set_option maxRecDepth 100000 in
theorem w_instanceMethod_X4_moment : Cond.instanceMethod yX4_moment ∈ hsAll := hs_in 529 (by decide +kernel) (by decide +kernel)
set_option maxRecDepth 100000 in
theorem w_code_X4_moment : Cond.code yX4_moment cX4_moment 5 (some .int) ∈ hsAll := hs_in 531 (by decide +kernel) (by decide +kernel)
set_option maxRecDepth 100000 in
theorem w_methodLink_X4_95 : Cond.methodLink RX4 95 yX4_countAt ∈ hsAll := hs_in 532 (by decide +kernel) (by decide +kernel)
set_option maxRecDepth 100000 in
theorem w_instanceMethod_X4_countAt : Cond.instanceMethod yX4_countAt ∈ hsAll := hs_in 534 (by decide +kernel) (by decide +kernel)
set_option maxRecDepth 100000 in
theorem w_code_X4_countAt : Cond.code yX4_countAt cX4_countAt 6 (some .int) ∈ hsAll := hs_in 535 (by decide +kernel) (by decide +kernel)
set_option maxRecDepth 100000 in
theorem w_methodLink_XL_79 : Cond.methodLink RXL 79 yX4_extent ∈ hsAll := hs_in 536 (by decide +kernel) (by decide +kernel)
set_option maxRecDepth 100000 in
theorem w_instanceMethod_X4_extent : Cond.instanceMethod yX4_extent ∈ hsAll := hs_in 537 (by decide +kernel) (by decide +kernel)
set_option maxRecDepth 100000 in
theorem w_code_X4_extent : Cond.code yX4_extent cX4_extent 7 (some .int) ∈ hsAll := hs_in 539 (by decide +kernel) (by decide +kernel)
set_option maxRecDepth 100000 in
theorem w_methodLink_XL_83 : Cond.methodLink RXL 83 yX4_inside ∈ hsAll := hs_in 540 (by decide +kernel) (by decide +kernel)
set_option maxRecDepth 100000 in
theorem w_instanceMethod_X4_inside : Cond.instanceMethod yX4_inside ∈ hsAll := hs_in 541 (by decide +kernel) (by decide +kernel)
set_option maxRecDepth 100000 in
theorem w_code_X4_inside : Cond.code yX4_inside cX4_inside 9 (some .int) ∈ hsAll := hs_in 543 (by decide +kernel) (by decide +kernel)
set_option maxRecDepth 100000 in
theorem w_methodLink_XL_87 : Cond.methodLink RXL 87 yX4_section ∈ hsAll := hs_in 544 (by decide +kernel) (by decide +kernel)
set_option maxRecDepth 100000 in
theorem w_instanceMethod_X4_section : Cond.instanceMethod yX4_section ∈ hsAll := hs_in 545 (by decide +kernel) (by decide +kernel)
set_option maxRecDepth 100000 in
theorem w_code_X4_section : Cond.code yX4_section cX4_section 4 (some .int) ∈ hsAll := hs_in 547 (by decide +kernel) (by decide +kernel)
set_option maxRecDepth 100000 in
theorem w_methodLink_XL_92 : Cond.methodLink RXL 92 yX4_same ∈ hsAll := hs_in 548 (by decide +kernel) (by decide +kernel)
set_option maxRecDepth 100000 in
theorem w_instanceMethod_X4_same : Cond.instanceMethod yX4_same ∈ hsAll := hs_in 549 (by decide +kernel) (by decide +kernel)
set_option maxRecDepth 100000 in
theorem w_code_X4_same : Cond.code yX4_same cX4_same 5 (some .boolean) ∈ hsAll := hs_in 551 (by decide +kernel) (by decide +kernel)
set_option maxRecDepth 100000 in
theorem w_methodLink_XL_97 : Cond.methodLink RXL 97 yX4_depth ∈ hsAll := hs_in 552 (by decide +kernel) (by decide +kernel)
set_option maxRecDepth 100000 in
theorem w_instanceMethod_X4_depth : Cond.instanceMethod yX4_depth ∈ hsAll := hs_in 553 (by decide +kernel) (by decide +kernel)
set_option maxRecDepth 100000 in
theorem w_code_X4_depth : Cond.code yX4_depth cX4_depth 6 (some .int) ∈ hsAll := hs_in 555 (by decide +kernel) (by decide +kernel)
set_option maxRecDepth 100000 in
theorem w_methodLink_X4_99 : Cond.methodLink RX4 99 yX4_depthOf ∈ hsAll := hs_in 556 (by decide +kernel) (by decide +kernel)
set_option maxRecDepth 100000 in
theorem w_instanceMethod_X4_depthOf : Cond.instanceMethod yX4_depthOf ∈ hsAll := hs_in 558 (by decide +kernel) (by decide +kernel)
set_option maxRecDepth 100000 in
theorem w_code_X4_depthOf : Cond.code yX4_depthOf cX4_depthOf 7 (some .int) ∈ hsAll := hs_in 559 (by decide +kernel) (by decide +kernel)
set_option maxRecDepth 100000 in
theorem w_methodLink_XL_102 : Cond.methodLink RXL 102 yX4_stroke ∈ hsAll := hs_in 560 (by decide +kernel) (by decide +kernel)
set_option maxRecDepth 100000 in
theorem w_instanceMethod_X4_stroke : Cond.instanceMethod yX4_stroke ∈ hsAll := hs_in 561 (by decide +kernel) (by decide +kernel)
set_option maxRecDepth 100000 in
theorem w_code_X4_stroke : Cond.code yX4_stroke cX4_stroke 8 (some .int) ∈ hsAll := hs_in 563 (by decide +kernel) (by decide +kernel)
set_option maxRecDepth 100000 in
theorem w_methodLink_X4_107 : Cond.methodLink RX4 107 yX4_strokeOf ∈ hsAll := hs_in 564 (by decide +kernel) (by decide +kernel)
set_option maxRecDepth 100000 in
theorem w_instanceMethod_X4_strokeOf : Cond.instanceMethod yX4_strokeOf ∈ hsAll := hs_in 566 (by decide +kernel) (by decide +kernel)
set_option maxRecDepth 100000 in
theorem w_code_X4_strokeOf : Cond.code yX4_strokeOf cX4_strokeOf 10 (some .int) ∈ hsAll := hs_in 567 (by decide +kernel) (by decide +kernel)
set_option maxRecDepth 100000 in
theorem w_methodLink_X4_103 : Cond.methodLink RX4 103 yX4_isEdgeAt ∈ hsAll := hs_in 568 (by decide +kernel) (by decide +kernel)
set_option maxRecDepth 100000 in
theorem w_instanceMethod_X4_isEdgeAt : Cond.instanceMethod yX4_isEdgeAt ∈ hsAll := hs_in 570 (by decide +kernel) (by decide +kernel)
set_option maxRecDepth 100000 in
theorem w_code_X4_isEdgeAt : Cond.code yX4_isEdgeAt cX4_isEdgeAt 7 (some .boolean) ∈ hsAll := hs_in 571 (by decide +kernel) (by decide +kernel)
set_option maxRecDepth 100000 in
theorem w_methodLink_XL_107 : Cond.methodLink RXL 107 yX4_strokes ∈ hsAll := hs_in 572 (by decide +kernel) (by decide +kernel)
set_option maxRecDepth 100000 in
theorem w_instanceMethod_X4_strokes : Cond.instanceMethod yX4_strokes ∈ hsAll := hs_in 573 (by decide +kernel) (by decide +kernel)
set_option maxRecDepth 100000 in
theorem w_code_X4_strokes : Cond.code yX4_strokes cX4_strokes 8 (some .int) ∈ hsAll := hs_in 575 (by decide +kernel) (by decide +kernel)
set_option maxRecDepth 100000 in
theorem w_selects_X0_box : Cond.selects RX0 yX0_box yX0_box ∈ hsAll := hs_in 109 (by decide +kernel) (by decide +kernel)
set_option maxRecDepth 100000 in
theorem w_selects_X1_becomeBox : Cond.selects RX1 yX1_becomeBox yX1_becomeBox ∈ hsAll := hs_in 122 (by decide +kernel) (by decide +kernel)
set_option maxRecDepth 100000 in
theorem w_selects_X0_takeStep : Cond.selects RX0 yX0_takeStep yX0_takeStep ∈ hsAll := hs_in 0 (by decide +kernel) (by decide +kernel)
set_option maxRecDepth 100000 in
theorem w_selects_X2_keep : Cond.selects RX2 yX2_keep yX2_keep ∈ hsAll := hs_in 133 (by decide +kernel) (by decide +kernel)
set_option maxRecDepth 100000 in
theorem w_selects_X1_countCells : Cond.selects RX1 yX1_countCells yX1_countCells ∈ hsAll := hs_in 137 (by decide +kernel) (by decide +kernel)
set_option maxRecDepth 100000 in
theorem w_selects_X0_join : Cond.selects RX0 yX0_join yX0_join ∈ hsAll := hs_in 147 (by decide +kernel) (by decide +kernel)
set_option maxRecDepth 100000 in
theorem w_selects_X1_becomeJoined : Cond.selects RX1 yX1_becomeJoined yX1_becomeJoined ∈ hsAll := hs_in 151 (by decide +kernel) (by decide +kernel)
set_option maxRecDepth 100000 in
theorem w_selects_X0_turn : Cond.selects RX0 yX0_turn yX0_turn ∈ hsAll := hs_in 158 (by decide +kernel) (by decide +kernel)
set_option maxRecDepth 100000 in
theorem w_selects_X1_becomeTurned : Cond.selects RX1 yX1_becomeTurned yX1_becomeTurned ∈ hsAll := hs_in 165 (by decide +kernel) (by decide +kernel)
set_option maxRecDepth 100000 in
theorem w_selects_X1_columnAlong : Cond.selects RX1 yX1_columnAlong yX1_columnAlong ∈ hsAll := hs_in 172 (by decide +kernel) (by decide +kernel)
set_option maxRecDepth 100000 in
theorem w_selects_X1_column : Cond.selects RX1 yX1_column yX1_column ∈ hsAll := hs_in 176 (by decide +kernel) (by decide +kernel)
set_option maxRecDepth 100000 in
theorem w_selects_X0_mirror : Cond.selects RX0 yX0_mirror yX0_mirror ∈ hsAll := hs_in 191 (by decide +kernel) (by decide +kernel)
set_option maxRecDepth 100000 in
theorem w_selects_X1_becomeMirrored : Cond.selects RX1 yX1_becomeMirrored yX1_becomeMirrored ∈ hsAll := hs_in 195 (by decide +kernel) (by decide +kernel)
set_option maxRecDepth 100000 in
theorem w_selects_X0_shift : Cond.selects RX0 yX0_shift yX0_shift ∈ hsAll := hs_in 202 (by decide +kernel) (by decide +kernel)
set_option maxRecDepth 100000 in
theorem w_selects_X1_leastAlong : Cond.selects RX1 yX1_leastAlong yX1_leastAlong ∈ hsAll := hs_in 209 (by decide +kernel) (by decide +kernel)
set_option maxRecDepth 100000 in
theorem w_selects_X1_countLayer : Cond.selects RX1 yX1_countLayer yX1_countLayer ∈ hsAll := hs_in 213 (by decide +kernel) (by decide +kernel)
set_option maxRecDepth 100000 in
theorem w_selects_X1_greatestAlong : Cond.selects RX1 yX1_greatestAlong yX1_greatestAlong ∈ hsAll := hs_in 217 (by decide +kernel) (by decide +kernel)
set_option maxRecDepth 100000 in
theorem w_selects_X1_becomeShifted : Cond.selects RX1 yX1_becomeShifted yX1_becomeShifted ∈ hsAll := hs_in 221 (by decide +kernel) (by decide +kernel)
set_option maxRecDepth 100000 in
theorem w_selects_X0_sweep : Cond.selects RX0 yX0_sweep yX0_sweep ∈ hsAll := hs_in 225 (by decide +kernel) (by decide +kernel)
set_option maxRecDepth 100000 in
theorem w_selects_X1_becomeSwept : Cond.selects RX1 yX1_becomeSwept yX1_becomeSwept ∈ hsAll := hs_in 229 (by decide +kernel) (by decide +kernel)
set_option maxRecDepth 100000 in
theorem w_selects_X0_undo : Cond.selects RX0 yX0_undo yX0_undo ∈ hsAll := hs_in 233 (by decide +kernel) (by decide +kernel)
set_option maxRecDepth 100000 in
theorem w_selects_X2_takeBack : Cond.selects RX2 yX2_takeBack yX2_takeBack ∈ hsAll := hs_in 237 (by decide +kernel) (by decide +kernel)
set_option maxRecDepth 100000 in
theorem w_selects_X2_exchange : Cond.selects RX2 yX2_exchange yX2_exchange ∈ hsAll := hs_in 1 (by decide +kernel) (by decide +kernel)
set_option maxRecDepth 100000 in
theorem w_selects_X0_redo : Cond.selects RX0 yX0_redo yX0_redo ∈ hsAll := hs_in 245 (by decide +kernel) (by decide +kernel)
set_option maxRecDepth 100000 in
theorem w_selects_X2_doAgain : Cond.selects RX2 yX2_doAgain yX2_doAgain ∈ hsAll := hs_in 249 (by decide +kernel) (by decide +kernel)
set_option maxRecDepth 100000 in
theorem w_selects_X0_volume : Cond.selects RX0 yX0_volume yX0_volume ∈ hsAll := hs_in 253 (by decide +kernel) (by decide +kernel)
set_option maxRecDepth 100000 in
theorem w_selects_X0_sides : Cond.selects RX0 yX0_sides yX0_sides ∈ hsAll := hs_in 257 (by decide +kernel) (by decide +kernel)
set_option maxRecDepth 100000 in
theorem w_selects_X1_countSides : Cond.selects RX1 yX1_countSides yX1_countSides ∈ hsAll := hs_in 261 (by decide +kernel) (by decide +kernel)
set_option maxRecDepth 100000 in
theorem w_selects_X0_edges : Cond.selects RX0 yX0_edges yX0_edges ∈ hsAll := hs_in 265 (by decide +kernel) (by decide +kernel)
set_option maxRecDepth 100000 in
theorem w_selects_X1_countEdges : Cond.selects RX1 yX1_countEdges yX1_countEdges ∈ hsAll := hs_in 269 (by decide +kernel) (by decide +kernel)
set_option maxRecDepth 100000 in
theorem w_selects_X0_pieces : Cond.selects RX0 yX0_pieces yX0_pieces ∈ hsAll := hs_in 280 (by decide +kernel) (by decide +kernel)
set_option maxRecDepth 100000 in
theorem w_selects_X3_countPieces : Cond.selects RX3 yX3_countPieces yX3_countPieces ∈ hsAll := hs_in 284 (by decide +kernel) (by decide +kernel)
set_option maxRecDepth 100000 in
theorem w_selects_X3_countLeft : Cond.selects RX3 yX3_countLeft yX3_countLeft ∈ hsAll := hs_in 2 (by decide +kernel) (by decide +kernel)
set_option maxRecDepth 100000 in
theorem w_selects_X3_countFrom : Cond.selects RX3 yX3_countFrom yX3_countFrom ∈ hsAll := hs_in 3 (by decide +kernel) (by decide +kernel)
set_option maxRecDepth 100000 in
theorem w_selects_X3_take : Cond.selects RX3 yX3_take yX3_take ∈ hsAll := hs_in 4 (by decide +kernel) (by decide +kernel)
set_option maxRecDepth 100000 in
theorem w_selects_X3_spread : Cond.selects RX3 yX3_spread yX3_spread ∈ hsAll := hs_in 5 (by decide +kernel) (by decide +kernel)
set_option maxRecDepth 100000 in
theorem w_selects_X0_hollows : Cond.selects RX0 yX0_hollows yX0_hollows ∈ hsAll := hs_in 305 (by decide +kernel) (by decide +kernel)
set_option maxRecDepth 100000 in
theorem w_selects_X3_countHollows : Cond.selects RX3 yX3_countHollows yX3_countHollows ∈ hsAll := hs_in 309 (by decide +kernel) (by decide +kernel)
set_option maxRecDepth 100000 in
theorem w_selects_X3_dropFromBorder : Cond.selects RX3 yX3_dropFromBorder yX3_dropFromBorder ∈ hsAll := hs_in 6 (by decide +kernel) (by decide +kernel)
set_option maxRecDepth 100000 in
theorem w_selects_X0_moment : Cond.selects RX0 yX0_moment yX0_moment ∈ hsAll := hs_in 317 (by decide +kernel) (by decide +kernel)
set_option maxRecDepth 100000 in
theorem w_selects_X0_extent : Cond.selects RX0 yX0_extent yX0_extent ∈ hsAll := hs_in 322 (by decide +kernel) (by decide +kernel)
set_option maxRecDepth 100000 in
theorem w_selects_X0_inside : Cond.selects RX0 yX0_inside yX0_inside ∈ hsAll := hs_in 326 (by decide +kernel) (by decide +kernel)
set_option maxRecDepth 100000 in
theorem w_selects_X1_countAround : Cond.selects RX1 yX1_countAround yX1_countAround ∈ hsAll := hs_in 333 (by decide +kernel) (by decide +kernel)
set_option maxRecDepth 100000 in
theorem w_selects_X1_countPair : Cond.selects RX1 yX1_countPair yX1_countPair ∈ hsAll := hs_in 7 (by decide +kernel) (by decide +kernel)
set_option maxRecDepth 100000 in
theorem w_selects_X0_section : Cond.selects RX0 yX0_section yX0_section ∈ hsAll := hs_in 341 (by decide +kernel) (by decide +kernel)
set_option maxRecDepth 100000 in
theorem w_selects_X0_same : Cond.selects RX0 yX0_same yX0_same ∈ hsAll := hs_in 345 (by decide +kernel) (by decide +kernel)
set_option maxRecDepth 100000 in
theorem w_selects_X1_hasCellsOf : Cond.selects RX1 yX1_hasCellsOf yX1_hasCellsOf ∈ hsAll := hs_in 349 (by decide +kernel) (by decide +kernel)
set_option maxRecDepth 100000 in
theorem w_selects_X0_depth : Cond.selects RX0 yX0_depth yX0_depth ∈ hsAll := hs_in 353 (by decide +kernel) (by decide +kernel)
set_option maxRecDepth 100000 in
theorem w_selects_X0_stroke : Cond.selects RX0 yX0_stroke yX0_stroke ∈ hsAll := hs_in 368 (by decide +kernel) (by decide +kernel)
set_option maxRecDepth 100000 in
theorem w_selects_X0_strokes : Cond.selects RX0 yX0_strokes yX0_strokes ∈ hsAll := hs_in 379 (by decide +kernel) (by decide +kernel)
set_option maxRecDepth 100000 in
theorem w_selects_X1_becomeView : Cond.selects RX1 yX1_becomeView yX1_becomeView ∈ hsAll := hs_in 383 (by decide +kernel) (by decide +kernel)
set_option maxRecDepth 100000 in
theorem w_selects_X4_undo : Cond.selects RX4 yX4_undo yX4_undo ∈ hsAll := hs_in 419 (by decide +kernel) (by decide +kernel)
set_option maxRecDepth 100000 in
theorem w_selects_X4_copy : Cond.selects RX4 yX4_copy yX4_copy ∈ hsAll := hs_in 8 (by decide +kernel) (by decide +kernel)
set_option maxRecDepth 100000 in
theorem w_selects_X4_redo : Cond.selects RX4 yX4_redo yX4_redo ∈ hsAll := hs_in 427 (by decide +kernel) (by decide +kernel)
set_option maxRecDepth 100000 in
theorem w_selects_X4_box : Cond.selects RX4 yX4_box yX4_box ∈ hsAll := hs_in 431 (by decide +kernel) (by decide +kernel)
set_option maxRecDepth 100000 in
theorem w_selects_X4_clearDraft : Cond.selects RX4 yX4_clearDraft yX4_clearDraft ∈ hsAll := hs_in 9 (by decide +kernel) (by decide +kernel)
set_option maxRecDepth 100000 in
theorem w_selects_X4_put : Cond.selects RX4 yX4_put yX4_put ∈ hsAll := hs_in 10 (by decide +kernel) (by decide +kernel)
set_option maxRecDepth 100000 in
theorem w_selects_X4_step : Cond.selects RX4 yX4_step yX4_step ∈ hsAll := hs_in 11 (by decide +kernel) (by decide +kernel)
set_option maxRecDepth 100000 in
theorem w_selects_X4_count : Cond.selects RX4 yX4_count yX4_count ∈ hsAll := hs_in 12 (by decide +kernel) (by decide +kernel)
set_option maxRecDepth 100000 in
theorem w_selects_X4_join : Cond.selects RX4 yX4_join yX4_join ∈ hsAll := hs_in 457 (by decide +kernel) (by decide +kernel)
set_option maxRecDepth 100000 in
theorem w_selects_X4_has : Cond.selects RX4 yX4_has yX4_has ∈ hsAll := hs_in 13 (by decide +kernel) (by decide +kernel)
set_option maxRecDepth 100000 in
theorem w_selects_X4_turn : Cond.selects RX4 yX4_turn yX4_turn ∈ hsAll := hs_in 465 (by decide +kernel) (by decide +kernel)
set_option maxRecDepth 100000 in
theorem w_selects_X4_mirror : Cond.selects RX4 yX4_mirror yX4_mirror ∈ hsAll := hs_in 472 (by decide +kernel) (by decide +kernel)
set_option maxRecDepth 100000 in
theorem w_selects_X4_shift : Cond.selects RX4 yX4_shift yX4_shift ∈ hsAll := hs_in 476 (by decide +kernel) (by decide +kernel)
set_option maxRecDepth 100000 in
theorem w_selects_X4_sweep : Cond.selects RX4 yX4_sweep yX4_sweep ∈ hsAll := hs_in 483 (by decide +kernel) (by decide +kernel)
set_option maxRecDepth 100000 in
theorem w_selects_X4_hasBy : Cond.selects RX4 yX4_hasBy yX4_hasBy ∈ hsAll := hs_in 14 (by decide +kernel) (by decide +kernel)
set_option maxRecDepth 100000 in
theorem w_selects_X4_volume : Cond.selects RX4 yX4_volume yX4_volume ∈ hsAll := hs_in 491 (by decide +kernel) (by decide +kernel)
set_option maxRecDepth 100000 in
theorem w_selects_X4_sides : Cond.selects RX4 yX4_sides yX4_sides ∈ hsAll := hs_in 495 (by decide +kernel) (by decide +kernel)
set_option maxRecDepth 100000 in
theorem w_selects_X4_edges : Cond.selects RX4 yX4_edges yX4_edges ∈ hsAll := hs_in 499 (by decide +kernel) (by decide +kernel)
set_option maxRecDepth 100000 in
theorem w_selects_X4_isEdge : Cond.selects RX4 yX4_isEdge yX4_isEdge ∈ hsAll := hs_in 15 (by decide +kernel) (by decide +kernel)
set_option maxRecDepth 100000 in
theorem w_selects_X4_pieces : Cond.selects RX4 yX4_pieces yX4_pieces ∈ hsAll := hs_in 507 (by decide +kernel) (by decide +kernel)
set_option maxRecDepth 100000 in
theorem w_selects_X4_sets : Cond.selects RX4 yX4_sets yX4_sets ∈ hsAll := hs_in 16 (by decide +kernel) (by decide +kernel)
set_option maxRecDepth 100000 in
theorem w_selects_X4_see : Cond.selects RX4 yX4_see yX4_see ∈ hsAll := hs_in 17 (by decide +kernel) (by decide +kernel)
set_option maxRecDepth 100000 in
theorem w_selects_X4_spread : Cond.selects RX4 yX4_spread yX4_spread ∈ hsAll := hs_in 18 (by decide +kernel) (by decide +kernel)
set_option maxRecDepth 100000 in
theorem w_selects_X4_hollows : Cond.selects RX4 yX4_hollows yX4_hollows ∈ hsAll := hs_in 526 (by decide +kernel) (by decide +kernel)
set_option maxRecDepth 100000 in
theorem w_selects_X4_moment : Cond.selects RX4 yX4_moment yX4_moment ∈ hsAll := hs_in 530 (by decide +kernel) (by decide +kernel)
set_option maxRecDepth 100000 in
theorem w_selects_X4_countAt : Cond.selects RX4 yX4_countAt yX4_countAt ∈ hsAll := hs_in 19 (by decide +kernel) (by decide +kernel)
set_option maxRecDepth 100000 in
theorem w_selects_X4_extent : Cond.selects RX4 yX4_extent yX4_extent ∈ hsAll := hs_in 538 (by decide +kernel) (by decide +kernel)
set_option maxRecDepth 100000 in
theorem w_selects_X4_inside : Cond.selects RX4 yX4_inside yX4_inside ∈ hsAll := hs_in 542 (by decide +kernel) (by decide +kernel)
set_option maxRecDepth 100000 in
theorem w_selects_X4_section : Cond.selects RX4 yX4_section yX4_section ∈ hsAll := hs_in 546 (by decide +kernel) (by decide +kernel)
set_option maxRecDepth 100000 in
theorem w_selects_X4_same : Cond.selects RX4 yX4_same yX4_same ∈ hsAll := hs_in 550 (by decide +kernel) (by decide +kernel)
set_option maxRecDepth 100000 in
theorem w_selects_X4_depth : Cond.selects RX4 yX4_depth yX4_depth ∈ hsAll := hs_in 554 (by decide +kernel) (by decide +kernel)
set_option maxRecDepth 100000 in
theorem w_selects_X4_depthOf : Cond.selects RX4 yX4_depthOf yX4_depthOf ∈ hsAll := hs_in 20 (by decide +kernel) (by decide +kernel)
set_option maxRecDepth 100000 in
theorem w_selects_X4_stroke : Cond.selects RX4 yX4_stroke yX4_stroke ∈ hsAll := hs_in 562 (by decide +kernel) (by decide +kernel)
set_option maxRecDepth 100000 in
theorem w_selects_X4_strokeOf : Cond.selects RX4 yX4_strokeOf yX4_strokeOf ∈ hsAll := hs_in 21 (by decide +kernel) (by decide +kernel)
set_option maxRecDepth 100000 in
theorem w_selects_X4_isEdgeAt : Cond.selects RX4 yX4_isEdgeAt yX4_isEdgeAt ∈ hsAll := hs_in 22 (by decide +kernel) (by decide +kernel)
set_option maxRecDepth 100000 in
theorem w_selects_X4_strokes : Cond.selects RX4 yX4_strokes yX4_strokes ∈ hsAll := hs_in 574 (by decide +kernel) (by decide +kernel)
set_option maxRecDepth 100000 in
theorem w_lay_X0_0 : u_lay RX0 TX0 0 ∈ hsAll := hs_in 96 (by decide +kernel) (by decide +kernel)
set_option maxRecDepth 100000 in
theorem w_lay_X0_1 : u_lay RX0 TX0 1 ∈ hsAll := hs_in 98 (by decide +kernel) (by decide +kernel)
set_option maxRecDepth 100000 in
theorem w_lay_X0_2 : u_lay RX0 TX0 2 ∈ hsAll := hs_in 100 (by decide +kernel) (by decide +kernel)
set_option maxRecDepth 100000 in
theorem w_lay_X0_3 : u_lay RX0 TX0 3 ∈ hsAll := hs_in 102 (by decide +kernel) (by decide +kernel)
set_option maxRecDepth 100000 in
theorem w_lay_X0_4 : u_lay RX0 TX0 4 ∈ hsAll := hs_in 104 (by decide +kernel) (by decide +kernel)
theorem wu_X0 : ∀ w ∈ u_ws RX0 TX0 5, w ∈ hsAll := by
  intro w hw
  obtain ⟨k, hk, rfl⟩ := List.mem_map.mp hw
  have hk := List.mem_range.mp hk
  match k, hk with
  | 0, _ => exact w_lay_X0_0
  | 1, _ => exact w_lay_X0_1
  | 2, _ => exact w_lay_X0_2
  | 3, _ => exact w_lay_X0_3
  | 4, _ => exact w_lay_X0_4
  | n + 5, h => exact absurd h (by omega)
set_option maxRecDepth 100000 in
theorem w_lay_X1_0 : u_lay RX1 TX1 0 ∈ hsAll := hs_in 47 (by decide +kernel) (by decide +kernel)
theorem wu_X1 : ∀ w ∈ u_ws RX1 TX1 1, w ∈ hsAll := by
  intro w hw
  obtain ⟨k, hk, rfl⟩ := List.mem_map.mp hw
  have hk := List.mem_range.mp hk
  match k, hk with
  | 0, _ => exact w_lay_X1_0
  | n + 1, h => exact absurd h (by omega)
set_option maxRecDepth 100000 in
theorem w_lay_X2_0 : u_lay RX2 TX2 0 ∈ hsAll := hs_in 64 (by decide +kernel) (by decide +kernel)
set_option maxRecDepth 100000 in
theorem w_lay_X2_1 : u_lay RX2 TX2 1 ∈ hsAll := hs_in 66 (by decide +kernel) (by decide +kernel)
set_option maxRecDepth 100000 in
theorem w_lay_X2_2 : u_lay RX2 TX2 2 ∈ hsAll := hs_in 68 (by decide +kernel) (by decide +kernel)
set_option maxRecDepth 100000 in
theorem w_lay_X2_3 : u_lay RX2 TX2 3 ∈ hsAll := hs_in 70 (by decide +kernel) (by decide +kernel)
set_option maxRecDepth 100000 in
theorem w_lay_X2_4 : u_lay RX2 TX2 4 ∈ hsAll := hs_in 72 (by decide +kernel) (by decide +kernel)
theorem wu_X2 : ∀ w ∈ u_ws RX2 TX2 5, w ∈ hsAll := by
  intro w hw
  obtain ⟨k, hk, rfl⟩ := List.mem_map.mp hw
  have hk := List.mem_range.mp hk
  match k, hk with
  | 0, _ => exact w_lay_X2_0
  | 1, _ => exact w_lay_X2_1
  | 2, _ => exact w_lay_X2_2
  | 3, _ => exact w_lay_X2_3
  | 4, _ => exact w_lay_X2_4
  | n + 5, h => exact absurd h (by omega)
set_option maxRecDepth 100000 in
theorem w_lay_X3_0 : u_lay RX3 TX3 0 ∈ hsAll := hs_in 84 (by decide +kernel) (by decide +kernel)
set_option maxRecDepth 100000 in
theorem w_lay_X3_1 : u_lay RX3 TX3 1 ∈ hsAll := hs_in 86 (by decide +kernel) (by decide +kernel)
set_option maxRecDepth 100000 in
theorem w_lay_X3_2 : u_lay RX3 TX3 2 ∈ hsAll := hs_in 88 (by decide +kernel) (by decide +kernel)
theorem wu_X3 : ∀ w ∈ u_ws RX3 TX3 3, w ∈ hsAll := by
  intro w hw
  obtain ⟨k, hk, rfl⟩ := List.mem_map.mp hw
  have hk := List.mem_range.mp hk
  match k, hk with
  | 0, _ => exact w_lay_X3_0
  | 1, _ => exact w_lay_X3_1
  | 2, _ => exact w_lay_X3_2
  | n + 3, h => exact absurd h (by omega)
set_option maxRecDepth 100000 in
theorem w_lay_X4_0 : u_lay RX4 TX4 0 ∈ hsAll := hs_in 400 (by decide +kernel) (by decide +kernel)
set_option maxRecDepth 100000 in
theorem w_lay_X4_1 : u_lay RX4 TX4 1 ∈ hsAll := hs_in 402 (by decide +kernel) (by decide +kernel)
set_option maxRecDepth 100000 in
theorem w_lay_X4_2 : u_lay RX4 TX4 2 ∈ hsAll := hs_in 404 (by decide +kernel) (by decide +kernel)
set_option maxRecDepth 100000 in
theorem w_lay_X4_3 : u_lay RX4 TX4 3 ∈ hsAll := hs_in 406 (by decide +kernel) (by decide +kernel)
set_option maxRecDepth 100000 in
theorem w_lay_X4_4 : u_lay RX4 TX4 4 ∈ hsAll := hs_in 408 (by decide +kernel) (by decide +kernel)
set_option maxRecDepth 100000 in
theorem w_lay_X4_5 : u_lay RX4 TX4 5 ∈ hsAll := hs_in 410 (by decide +kernel) (by decide +kernel)
set_option maxRecDepth 100000 in
theorem w_lay_X4_6 : u_lay RX4 TX4 6 ∈ hsAll := hs_in 412 (by decide +kernel) (by decide +kernel)
set_option maxRecDepth 100000 in
theorem w_lay_X4_7 : u_lay RX4 TX4 7 ∈ hsAll := hs_in 414 (by decide +kernel) (by decide +kernel)
theorem wu_X4 : ∀ w ∈ u_ws RX4 TX4 8, w ∈ hsAll := by
  intro w hw
  obtain ⟨k, hk, rfl⟩ := List.mem_map.mp hw
  have hk := List.mem_range.mp hk
  match k, hk with
  | 0, _ => exact w_lay_X4_0
  | 1, _ => exact w_lay_X4_1
  | 2, _ => exact w_lay_X4_2
  | 3, _ => exact w_lay_X4_3
  | 4, _ => exact w_lay_X4_4
  | 5, _ => exact w_lay_X4_5
  | 6, _ => exact w_lay_X4_6
  | 7, _ => exact w_lay_X4_7
  | n + 8, h => exact absurd h (by omega)
end
section
theorem dX1_init_0 : decode cX1_init 0 = .ok (.aload_n 0, 1) := by decide +kernel
theorem dX1_init_1 : decode cX1_init 1 = .ok (.invokespecial 3, 3) := by decide +kernel
theorem dX1_init_4 : decode cX1_init 4 = .ok (.aload_n 0, 1) := by decide +kernel
theorem dX1_init_5 : decode cX1_init 5 = .ok (.sipush 144, 3) := by decide +kernel
theorem dX1_init_8 : decode cX1_init 8 = .ok (.newarray .int, 2) := by decide +kernel
theorem dX1_init_10 : decode cX1_init 10 = .ok (.putfield 9, 3) := by decide +kernel
theorem dX1_init_13 : decode cX1_init 13 = .ok (.return_, 1) := by decide +kernel
theorem dX1_column_0 : decode cX1_column 0 = .ok (.iload_n 1, 1) := by decide +kernel
theorem dX1_column_1 : decode cX1_column 1 = .ok (.invokestatic 15, 3) := by decide +kernel
theorem dX1_column_4 : decode cX1_column 4 = .ok (.ifCond .eq 24, 3) := by decide +kernel
theorem dX1_column_7 : decode cX1_column 7 = .ok (.iload_n 2, 1) := by decide +kernel
theorem dX1_column_8 : decode cX1_column 8 = .ok (.invokestatic 15, 3) := by decide +kernel
theorem dX1_column_11 : decode cX1_column 11 = .ok (.ifCond .eq 17, 3) := by decide +kernel
theorem dX1_column_14 : decode cX1_column 14 = .ok (.aload_n 0, 1) := by decide +kernel
theorem dX1_column_15 : decode cX1_column 15 = .ok (.getfield 9, 3) := by decide +kernel
theorem dX1_column_18 : decode cX1_column 18 = .ok (.iload_n 1, 1) := by decide +kernel
theorem dX1_column_19 : decode cX1_column 19 = .ok (.bipush 12, 2) := by decide +kernel
theorem dX1_column_21 : decode cX1_column 21 = .ok (.imul, 1) := by decide +kernel
theorem dX1_column_22 : decode cX1_column 22 = .ok (.iload_n 2, 1) := by decide +kernel
theorem dX1_column_23 : decode cX1_column 23 = .ok (.iadd, 1) := by decide +kernel
theorem dX1_column_24 : decode cX1_column 24 = .ok (.iaload, 1) := by decide +kernel
theorem dX1_column_25 : decode cX1_column 25 = .ok (.goto 4, 3) := by decide +kernel
theorem dX1_column_28 : decode cX1_column 28 = .ok (.iconst 0, 1) := by decide +kernel
theorem dX1_column_29 : decode cX1_column 29 = .ok (.ireturn, 1) := by decide +kernel
theorem dX1_columnAlong_0 : decode cX1_columnAlong 0 = .ok (.iload_n 1, 1) := by decide +kernel
theorem dX1_columnAlong_1 : decode cX1_columnAlong 1 = .ok (.iconst 2, 1) := by decide +kernel
theorem dX1_columnAlong_2 : decode cX1_columnAlong 2 = .ok (.if_icmp .ne 10, 3) := by decide +kernel
theorem dX1_columnAlong_5 : decode cX1_columnAlong 5 = .ok (.aload_n 0, 1) := by decide +kernel
theorem dX1_columnAlong_6 : decode cX1_columnAlong 6 = .ok (.iload_n 2, 1) := by decide +kernel
theorem dX1_columnAlong_7 : decode cX1_columnAlong 7 = .ok (.iload_n 3, 1) := by decide +kernel
theorem dX1_columnAlong_8 : decode cX1_columnAlong 8 = .ok (.invokevirtual 19, 3) := by decide +kernel
theorem dX1_columnAlong_11 : decode cX1_columnAlong 11 = .ok (.ireturn, 1) := by decide +kernel
theorem dX1_columnAlong_12 : decode cX1_columnAlong 12 = .ok (.iload_n 3, 1) := by decide +kernel
theorem dX1_columnAlong_13 : decode cX1_columnAlong 13 = .ok (.invokestatic 15, 3) := by decide +kernel
theorem dX1_columnAlong_16 : decode cX1_columnAlong 16 = .ok (.ifCond .ne 5, 3) := by decide +kernel
theorem dX1_columnAlong_19 : decode cX1_columnAlong 19 = .ok (.iconst 0, 1) := by decide +kernel
theorem dX1_columnAlong_20 : decode cX1_columnAlong 20 = .ok (.ireturn, 1) := by decide +kernel
theorem dX1_columnAlong_21 : decode cX1_columnAlong 21 = .ok (.iconst 0, 1) := by decide +kernel
theorem dX1_columnAlong_22 : decode cX1_columnAlong 22 = .ok (.istore 4, 2) := by decide +kernel
theorem dX1_columnAlong_24 : decode cX1_columnAlong 24 = .ok (.iconst 0, 1) := by decide +kernel
theorem dX1_columnAlong_25 : decode cX1_columnAlong 25 = .ok (.istore 5, 2) := by decide +kernel
theorem dX1_columnAlong_27 : decode cX1_columnAlong 27 = .ok (.iload 5, 2) := by decide +kernel
theorem dX1_columnAlong_29 : decode cX1_columnAlong 29 = .ok (.bipush 12, 2) := by decide +kernel
theorem dX1_columnAlong_31 : decode cX1_columnAlong 31 = .ok (.if_icmp .ge 46, 3) := by decide +kernel
theorem dX1_columnAlong_34 : decode cX1_columnAlong 34 = .ok (.iload_n 1, 1) := by decide +kernel
theorem dX1_columnAlong_35 : decode cX1_columnAlong 35 = .ok (.ifCond .ne 13, 3) := by decide +kernel
theorem dX1_columnAlong_38 : decode cX1_columnAlong 38 = .ok (.aload_n 0, 1) := by decide +kernel
theorem dX1_columnAlong_39 : decode cX1_columnAlong 39 = .ok (.iload 5, 2) := by decide +kernel
theorem dX1_columnAlong_41 : decode cX1_columnAlong 41 = .ok (.iload_n 2, 1) := by decide +kernel
theorem dX1_columnAlong_42 : decode cX1_columnAlong 42 = .ok (.invokevirtual 19, 3) := by decide +kernel
theorem dX1_columnAlong_45 : decode cX1_columnAlong 45 = .ok (.goto 10, 3) := by decide +kernel
theorem dX1_columnAlong_48 : decode cX1_columnAlong 48 = .ok (.aload_n 0, 1) := by decide +kernel
theorem dX1_columnAlong_49 : decode cX1_columnAlong 49 = .ok (.iload_n 2, 1) := by decide +kernel
theorem dX1_columnAlong_50 : decode cX1_columnAlong 50 = .ok (.iload 5, 2) := by decide +kernel
theorem dX1_columnAlong_52 : decode cX1_columnAlong 52 = .ok (.invokevirtual 19, 3) := by decide +kernel
theorem dX1_columnAlong_55 : decode cX1_columnAlong 55 = .ok (.istore 6, 2) := by decide +kernel
theorem dX1_columnAlong_57 : decode cX1_columnAlong 57 = .ok (.iload 4, 2) := by decide +kernel
theorem dX1_columnAlong_59 : decode cX1_columnAlong 59 = .ok (.iload 6, 2) := by decide +kernel
theorem dX1_columnAlong_61 : decode cX1_columnAlong 61 = .ok (.iload_n 3, 1) := by decide +kernel
theorem dX1_columnAlong_62 : decode cX1_columnAlong 62 = .ok (.ishr, 1) := by decide +kernel
theorem dX1_columnAlong_63 : decode cX1_columnAlong 63 = .ok (.iconst 1, 1) := by decide +kernel
theorem dX1_columnAlong_64 : decode cX1_columnAlong 64 = .ok (.iand, 1) := by decide +kernel
theorem dX1_columnAlong_65 : decode cX1_columnAlong 65 = .ok (.iload 5, 2) := by decide +kernel
theorem dX1_columnAlong_67 : decode cX1_columnAlong 67 = .ok (.ishl, 1) := by decide +kernel
theorem dX1_columnAlong_68 : decode cX1_columnAlong 68 = .ok (.ior, 1) := by decide +kernel
theorem dX1_columnAlong_69 : decode cX1_columnAlong 69 = .ok (.istore 4, 2) := by decide +kernel
theorem dX1_columnAlong_71 : decode cX1_columnAlong 71 = .ok (.iinc 5 1, 3) := by decide +kernel
theorem dX1_columnAlong_74 : decode cX1_columnAlong 74 = .ok (.goto (-47), 3) := by decide +kernel
theorem dX1_columnAlong_77 : decode cX1_columnAlong 77 = .ok (.iload 4, 2) := by decide +kernel
theorem dX1_columnAlong_79 : decode cX1_columnAlong 79 = .ok (.ireturn, 1) := by decide +kernel
theorem dX1_becomeView_0 : decode cX1_becomeView 0 = .ok (.iconst 0, 1) := by decide +kernel
theorem dX1_becomeView_1 : decode cX1_becomeView 1 = .ok (.istore_n 3, 1) := by decide +kernel
theorem dX1_becomeView_2 : decode cX1_becomeView 2 = .ok (.iload_n 3, 1) := by decide +kernel
theorem dX1_becomeView_3 : decode cX1_becomeView 3 = .ok (.bipush 12, 2) := by decide +kernel
theorem dX1_becomeView_5 : decode cX1_becomeView 5 = .ok (.if_icmp .ge 45, 3) := by decide +kernel
theorem dX1_becomeView_8 : decode cX1_becomeView 8 = .ok (.iconst 0, 1) := by decide +kernel
theorem dX1_becomeView_9 : decode cX1_becomeView 9 = .ok (.istore 4, 2) := by decide +kernel
theorem dX1_becomeView_11 : decode cX1_becomeView 11 = .ok (.iload 4, 2) := by decide +kernel
theorem dX1_becomeView_13 : decode cX1_becomeView 13 = .ok (.bipush 12, 2) := by decide +kernel
theorem dX1_becomeView_15 : decode cX1_becomeView 15 = .ok (.if_icmp .ge 29, 3) := by decide +kernel
theorem dX1_becomeView_18 : decode cX1_becomeView 18 = .ok (.aload_n 0, 1) := by decide +kernel
theorem dX1_becomeView_19 : decode cX1_becomeView 19 = .ok (.getfield 9, 3) := by decide +kernel
theorem dX1_becomeView_22 : decode cX1_becomeView 22 = .ok (.iload_n 3, 1) := by decide +kernel
theorem dX1_becomeView_23 : decode cX1_becomeView 23 = .ok (.bipush 12, 2) := by decide +kernel
theorem dX1_becomeView_25 : decode cX1_becomeView 25 = .ok (.imul, 1) := by decide +kernel
theorem dX1_becomeView_26 : decode cX1_becomeView 26 = .ok (.iload 4, 2) := by decide +kernel
theorem dX1_becomeView_28 : decode cX1_becomeView 28 = .ok (.iadd, 1) := by decide +kernel
theorem dX1_becomeView_29 : decode cX1_becomeView 29 = .ok (.aload_n 1, 1) := by decide +kernel
theorem dX1_becomeView_30 : decode cX1_becomeView 30 = .ok (.iload_n 2, 1) := by decide +kernel
theorem dX1_becomeView_31 : decode cX1_becomeView 31 = .ok (.iload_n 3, 1) := by decide +kernel
theorem dX1_becomeView_32 : decode cX1_becomeView 32 = .ok (.iload 4, 2) := by decide +kernel
theorem dX1_becomeView_34 : decode cX1_becomeView 34 = .ok (.invokevirtual 23, 3) := by decide +kernel
theorem dX1_becomeView_37 : decode cX1_becomeView 37 = .ok (.iastore, 1) := by decide +kernel
theorem dX1_becomeView_38 : decode cX1_becomeView 38 = .ok (.iinc 4 1, 3) := by decide +kernel
theorem dX1_becomeView_41 : decode cX1_becomeView 41 = .ok (.goto (-30), 3) := by decide +kernel
theorem dX1_becomeView_44 : decode cX1_becomeView 44 = .ok (.iinc 3 1, 3) := by decide +kernel
theorem dX1_becomeView_47 : decode cX1_becomeView 47 = .ok (.goto (-45), 3) := by decide +kernel
theorem dX1_becomeView_50 : decode cX1_becomeView 50 = .ok (.return_, 1) := by decide +kernel
theorem dX1_becomeBox_0 : decode cX1_becomeBox 0 = .ok (.iload_n 3, 1) := by decide +kernel
theorem dX1_becomeBox_1 : decode cX1_becomeBox 1 = .ok (.iload 6, 2) := by decide +kernel
theorem dX1_becomeBox_3 : decode cX1_becomeBox 3 = .ok (.invokestatic 27, 3) := by decide +kernel
theorem dX1_becomeBox_6 : decode cX1_becomeBox 6 = .ok (.istore 7, 2) := by decide +kernel
theorem dX1_becomeBox_8 : decode cX1_becomeBox 8 = .ok (.iconst 0, 1) := by decide +kernel
theorem dX1_becomeBox_9 : decode cX1_becomeBox 9 = .ok (.istore 8, 2) := by decide +kernel
theorem dX1_becomeBox_11 : decode cX1_becomeBox 11 = .ok (.iload 8, 2) := by decide +kernel
theorem dX1_becomeBox_13 : decode cX1_becomeBox 13 = .ok (.bipush 12, 2) := by decide +kernel
theorem dX1_becomeBox_15 : decode cX1_becomeBox 15 = .ok (.if_icmp .ge 82, 3) := by decide +kernel
theorem dX1_becomeBox_18 : decode cX1_becomeBox 18 = .ok (.iconst 0, 1) := by decide +kernel
theorem dX1_becomeBox_19 : decode cX1_becomeBox 19 = .ok (.istore 9, 2) := by decide +kernel
theorem dX1_becomeBox_21 : decode cX1_becomeBox 21 = .ok (.iload 9, 2) := by decide +kernel
theorem dX1_becomeBox_23 : decode cX1_becomeBox 23 = .ok (.bipush 12, 2) := by decide +kernel
theorem dX1_becomeBox_25 : decode cX1_becomeBox 25 = .ok (.if_icmp .ge 66, 3) := by decide +kernel
theorem dX1_becomeBox_28 : decode cX1_becomeBox 28 = .ok (.iload 8, 2) := by decide +kernel
theorem dX1_becomeBox_30 : decode cX1_becomeBox 30 = .ok (.iload_n 1, 1) := by decide +kernel
theorem dX1_becomeBox_31 : decode cX1_becomeBox 31 = .ok (.if_icmp .lt 27, 3) := by decide +kernel
theorem dX1_becomeBox_34 : decode cX1_becomeBox 34 = .ok (.iload 8, 2) := by decide +kernel
theorem dX1_becomeBox_36 : decode cX1_becomeBox 36 = .ok (.iload 4, 2) := by decide +kernel
theorem dX1_becomeBox_38 : decode cX1_becomeBox 38 = .ok (.if_icmp .gt 20, 3) := by decide +kernel
theorem dX1_becomeBox_41 : decode cX1_becomeBox 41 = .ok (.iload 9, 2) := by decide +kernel
theorem dX1_becomeBox_43 : decode cX1_becomeBox 43 = .ok (.iload_n 2, 1) := by decide +kernel
theorem dX1_becomeBox_44 : decode cX1_becomeBox 44 = .ok (.if_icmp .lt 14, 3) := by decide +kernel
theorem dX1_becomeBox_47 : decode cX1_becomeBox 47 = .ok (.iload 9, 2) := by decide +kernel
theorem dX1_becomeBox_49 : decode cX1_becomeBox 49 = .ok (.iload 5, 2) := by decide +kernel
theorem dX1_becomeBox_51 : decode cX1_becomeBox 51 = .ok (.if_icmp .gt 7, 3) := by decide +kernel
theorem dX1_becomeBox_54 : decode cX1_becomeBox 54 = .ok (.iconst 1, 1) := by decide +kernel
theorem dX1_becomeBox_55 : decode cX1_becomeBox 55 = .ok (.goto 4, 3) := by decide +kernel
theorem dX1_becomeBox_58 : decode cX1_becomeBox 58 = .ok (.iconst 0, 1) := by decide +kernel
theorem dX1_becomeBox_59 : decode cX1_becomeBox 59 = .ok (.istore 10, 2) := by decide +kernel
theorem dX1_becomeBox_61 : decode cX1_becomeBox 61 = .ok (.aload_n 0, 1) := by decide +kernel
theorem dX1_becomeBox_62 : decode cX1_becomeBox 62 = .ok (.getfield 9, 3) := by decide +kernel
theorem dX1_becomeBox_65 : decode cX1_becomeBox 65 = .ok (.iload 8, 2) := by decide +kernel
theorem dX1_becomeBox_67 : decode cX1_becomeBox 67 = .ok (.bipush 12, 2) := by decide +kernel
theorem dX1_becomeBox_69 : decode cX1_becomeBox 69 = .ok (.imul, 1) := by decide +kernel
theorem dX1_becomeBox_70 : decode cX1_becomeBox 70 = .ok (.iload 9, 2) := by decide +kernel
theorem dX1_becomeBox_72 : decode cX1_becomeBox 72 = .ok (.iadd, 1) := by decide +kernel
theorem dX1_becomeBox_73 : decode cX1_becomeBox 73 = .ok (.iload 10, 2) := by decide +kernel
theorem dX1_becomeBox_75 : decode cX1_becomeBox 75 = .ok (.ifCond .eq 8, 3) := by decide +kernel
theorem dX1_becomeBox_78 : decode cX1_becomeBox 78 = .ok (.iload 7, 2) := by decide +kernel
theorem dX1_becomeBox_80 : decode cX1_becomeBox 80 = .ok (.goto 4, 3) := by decide +kernel
theorem dX1_becomeBox_83 : decode cX1_becomeBox 83 = .ok (.iconst 0, 1) := by decide +kernel
theorem dX1_becomeBox_84 : decode cX1_becomeBox 84 = .ok (.iastore, 1) := by decide +kernel
theorem dX1_becomeBox_85 : decode cX1_becomeBox 85 = .ok (.iinc 9 1, 3) := by decide +kernel
theorem dX1_becomeBox_88 : decode cX1_becomeBox 88 = .ok (.goto (-67), 3) := by decide +kernel
theorem dX1_becomeBox_91 : decode cX1_becomeBox 91 = .ok (.iinc 8 1, 3) := by decide +kernel
theorem dX1_becomeBox_94 : decode cX1_becomeBox 94 = .ok (.goto (-83), 3) := by decide +kernel
theorem dX1_becomeBox_97 : decode cX1_becomeBox 97 = .ok (.return_, 1) := by decide +kernel
theorem dX1_becomeJoined_0 : decode cX1_becomeJoined 0 = .ok (.iconst 0, 1) := by decide +kernel
theorem dX1_becomeJoined_1 : decode cX1_becomeJoined 1 = .ok (.istore 4, 2) := by decide +kernel
theorem dX1_becomeJoined_3 : decode cX1_becomeJoined 3 = .ok (.iload 4, 2) := by decide +kernel
theorem dX1_becomeJoined_5 : decode cX1_becomeJoined 5 = .ok (.sipush 144, 3) := by decide +kernel
theorem dX1_becomeJoined_8 : decode cX1_becomeJoined 8 = .ok (.if_icmp .ge 34, 3) := by decide +kernel
theorem dX1_becomeJoined_11 : decode cX1_becomeJoined 11 = .ok (.aload_n 0, 1) := by decide +kernel
theorem dX1_becomeJoined_12 : decode cX1_becomeJoined 12 = .ok (.getfield 9, 3) := by decide +kernel
theorem dX1_becomeJoined_15 : decode cX1_becomeJoined 15 = .ok (.iload 4, 2) := by decide +kernel
theorem dX1_becomeJoined_17 : decode cX1_becomeJoined 17 = .ok (.aload_n 1, 1) := by decide +kernel
theorem dX1_becomeJoined_18 : decode cX1_becomeJoined 18 = .ok (.getfield 9, 3) := by decide +kernel
theorem dX1_becomeJoined_21 : decode cX1_becomeJoined 21 = .ok (.iload 4, 2) := by decide +kernel
theorem dX1_becomeJoined_23 : decode cX1_becomeJoined 23 = .ok (.iaload, 1) := by decide +kernel
theorem dX1_becomeJoined_24 : decode cX1_becomeJoined 24 = .ok (.aload_n 2, 1) := by decide +kernel
theorem dX1_becomeJoined_25 : decode cX1_becomeJoined 25 = .ok (.getfield 9, 3) := by decide +kernel
theorem dX1_becomeJoined_28 : decode cX1_becomeJoined 28 = .ok (.iload 4, 2) := by decide +kernel
theorem dX1_becomeJoined_30 : decode cX1_becomeJoined 30 = .ok (.iaload, 1) := by decide +kernel
theorem dX1_becomeJoined_31 : decode cX1_becomeJoined 31 = .ok (.iload_n 3, 1) := by decide +kernel
theorem dX1_becomeJoined_32 : decode cX1_becomeJoined 32 = .ok (.invokestatic 30, 3) := by decide +kernel
theorem dX1_becomeJoined_35 : decode cX1_becomeJoined 35 = .ok (.iastore, 1) := by decide +kernel
theorem dX1_becomeJoined_36 : decode cX1_becomeJoined 36 = .ok (.iinc 4 1, 3) := by decide +kernel
theorem dX1_becomeJoined_39 : decode cX1_becomeJoined 39 = .ok (.goto (-36), 3) := by decide +kernel
theorem dX1_becomeJoined_42 : decode cX1_becomeJoined 42 = .ok (.return_, 1) := by decide +kernel
theorem dX1_becomeTurned_0 : decode cX1_becomeTurned 0 = .ok (.iconst 0, 1) := by decide +kernel
theorem dX1_becomeTurned_1 : decode cX1_becomeTurned 1 = .ok (.istore_n 3, 1) := by decide +kernel
theorem dX1_becomeTurned_2 : decode cX1_becomeTurned 2 = .ok (.iload_n 3, 1) := by decide +kernel
theorem dX1_becomeTurned_3 : decode cX1_becomeTurned 3 = .ok (.bipush 12, 2) := by decide +kernel
theorem dX1_becomeTurned_5 : decode cX1_becomeTurned 5 = .ok (.if_icmp .ge 45, 3) := by decide +kernel
theorem dX1_becomeTurned_8 : decode cX1_becomeTurned 8 = .ok (.iconst 0, 1) := by decide +kernel
theorem dX1_becomeTurned_9 : decode cX1_becomeTurned 9 = .ok (.istore 4, 2) := by decide +kernel
theorem dX1_becomeTurned_11 : decode cX1_becomeTurned 11 = .ok (.iload 4, 2) := by decide +kernel
theorem dX1_becomeTurned_13 : decode cX1_becomeTurned 13 = .ok (.bipush 12, 2) := by decide +kernel
theorem dX1_becomeTurned_15 : decode cX1_becomeTurned 15 = .ok (.if_icmp .ge 29, 3) := by decide +kernel
theorem dX1_becomeTurned_18 : decode cX1_becomeTurned 18 = .ok (.aload_n 0, 1) := by decide +kernel
theorem dX1_becomeTurned_19 : decode cX1_becomeTurned 19 = .ok (.getfield 9, 3) := by decide +kernel
theorem dX1_becomeTurned_22 : decode cX1_becomeTurned 22 = .ok (.iload_n 3, 1) := by decide +kernel
theorem dX1_becomeTurned_23 : decode cX1_becomeTurned 23 = .ok (.bipush 12, 2) := by decide +kernel
theorem dX1_becomeTurned_25 : decode cX1_becomeTurned 25 = .ok (.imul, 1) := by decide +kernel
theorem dX1_becomeTurned_26 : decode cX1_becomeTurned 26 = .ok (.iload 4, 2) := by decide +kernel
theorem dX1_becomeTurned_28 : decode cX1_becomeTurned 28 = .ok (.iadd, 1) := by decide +kernel
theorem dX1_becomeTurned_29 : decode cX1_becomeTurned 29 = .ok (.aload_n 1, 1) := by decide +kernel
theorem dX1_becomeTurned_30 : decode cX1_becomeTurned 30 = .ok (.iload_n 2, 1) := by decide +kernel
theorem dX1_becomeTurned_31 : decode cX1_becomeTurned 31 = .ok (.iload_n 3, 1) := by decide +kernel
theorem dX1_becomeTurned_32 : decode cX1_becomeTurned 32 = .ok (.iload 4, 2) := by decide +kernel
theorem dX1_becomeTurned_34 : decode cX1_becomeTurned 34 = .ok (.invokestatic 33, 3) := by decide +kernel
theorem dX1_becomeTurned_37 : decode cX1_becomeTurned 37 = .ok (.iastore, 1) := by decide +kernel
theorem dX1_becomeTurned_38 : decode cX1_becomeTurned 38 = .ok (.iinc 4 1, 3) := by decide +kernel
theorem dX1_becomeTurned_41 : decode cX1_becomeTurned 41 = .ok (.goto (-30), 3) := by decide +kernel
theorem dX1_becomeTurned_44 : decode cX1_becomeTurned 44 = .ok (.iinc 3 1, 3) := by decide +kernel
theorem dX1_becomeTurned_47 : decode cX1_becomeTurned 47 = .ok (.goto (-45), 3) := by decide +kernel
theorem dX1_becomeTurned_50 : decode cX1_becomeTurned 50 = .ok (.return_, 1) := by decide +kernel
theorem dX1_becomeMirrored_0 : decode cX1_becomeMirrored 0 = .ok (.iconst 0, 1) := by decide +kernel
theorem dX1_becomeMirrored_1 : decode cX1_becomeMirrored 1 = .ok (.istore_n 3, 1) := by decide +kernel
theorem dX1_becomeMirrored_2 : decode cX1_becomeMirrored 2 = .ok (.iload_n 3, 1) := by decide +kernel
theorem dX1_becomeMirrored_3 : decode cX1_becomeMirrored 3 = .ok (.bipush 12, 2) := by decide +kernel
theorem dX1_becomeMirrored_5 : decode cX1_becomeMirrored 5 = .ok (.if_icmp .ge 45, 3) := by decide +kernel
theorem dX1_becomeMirrored_8 : decode cX1_becomeMirrored 8 = .ok (.iconst 0, 1) := by decide +kernel
theorem dX1_becomeMirrored_9 : decode cX1_becomeMirrored 9 = .ok (.istore 4, 2) := by decide +kernel
theorem dX1_becomeMirrored_11 : decode cX1_becomeMirrored 11 = .ok (.iload 4, 2) := by decide +kernel
theorem dX1_becomeMirrored_13 : decode cX1_becomeMirrored 13 = .ok (.bipush 12, 2) := by decide +kernel
theorem dX1_becomeMirrored_15 : decode cX1_becomeMirrored 15 = .ok (.if_icmp .ge 29, 3) := by decide +kernel
theorem dX1_becomeMirrored_18 : decode cX1_becomeMirrored 18 = .ok (.aload_n 0, 1) := by decide +kernel
theorem dX1_becomeMirrored_19 : decode cX1_becomeMirrored 19 = .ok (.getfield 9, 3) := by decide +kernel
theorem dX1_becomeMirrored_22 : decode cX1_becomeMirrored 22 = .ok (.iload_n 3, 1) := by decide +kernel
theorem dX1_becomeMirrored_23 : decode cX1_becomeMirrored 23 = .ok (.bipush 12, 2) := by decide +kernel
theorem dX1_becomeMirrored_25 : decode cX1_becomeMirrored 25 = .ok (.imul, 1) := by decide +kernel
theorem dX1_becomeMirrored_26 : decode cX1_becomeMirrored 26 = .ok (.iload 4, 2) := by decide +kernel
theorem dX1_becomeMirrored_28 : decode cX1_becomeMirrored 28 = .ok (.iadd, 1) := by decide +kernel
theorem dX1_becomeMirrored_29 : decode cX1_becomeMirrored 29 = .ok (.aload_n 1, 1) := by decide +kernel
theorem dX1_becomeMirrored_30 : decode cX1_becomeMirrored 30 = .ok (.iload_n 2, 1) := by decide +kernel
theorem dX1_becomeMirrored_31 : decode cX1_becomeMirrored 31 = .ok (.iload_n 3, 1) := by decide +kernel
theorem dX1_becomeMirrored_32 : decode cX1_becomeMirrored 32 = .ok (.iload 4, 2) := by decide +kernel
theorem dX1_becomeMirrored_34 : decode cX1_becomeMirrored 34 = .ok (.invokestatic 37, 3) := by decide +kernel
theorem dX1_becomeMirrored_37 : decode cX1_becomeMirrored 37 = .ok (.iastore, 1) := by decide +kernel
theorem dX1_becomeMirrored_38 : decode cX1_becomeMirrored 38 = .ok (.iinc 4 1, 3) := by decide +kernel
theorem dX1_becomeMirrored_41 : decode cX1_becomeMirrored 41 = .ok (.goto (-30), 3) := by decide +kernel
theorem dX1_becomeMirrored_44 : decode cX1_becomeMirrored 44 = .ok (.iinc 3 1, 3) := by decide +kernel
theorem dX1_becomeMirrored_47 : decode cX1_becomeMirrored 47 = .ok (.goto (-45), 3) := by decide +kernel
theorem dX1_becomeMirrored_50 : decode cX1_becomeMirrored 50 = .ok (.return_, 1) := by decide +kernel
theorem dX1_becomeShifted_0 : decode cX1_becomeShifted 0 = .ok (.iconst 0, 1) := by decide +kernel
theorem dX1_becomeShifted_1 : decode cX1_becomeShifted 1 = .ok (.istore 5, 2) := by decide +kernel
theorem dX1_becomeShifted_3 : decode cX1_becomeShifted 3 = .ok (.iload 5, 2) := by decide +kernel
theorem dX1_becomeShifted_5 : decode cX1_becomeShifted 5 = .ok (.bipush 12, 2) := by decide +kernel
theorem dX1_becomeShifted_7 : decode cX1_becomeShifted 7 = .ok (.if_icmp .ge 71, 3) := by decide +kernel
theorem dX1_becomeShifted_10 : decode cX1_becomeShifted 10 = .ok (.iconst 0, 1) := by decide +kernel
theorem dX1_becomeShifted_11 : decode cX1_becomeShifted 11 = .ok (.istore 6, 2) := by decide +kernel
theorem dX1_becomeShifted_13 : decode cX1_becomeShifted 13 = .ok (.iload 6, 2) := by decide +kernel
theorem dX1_becomeShifted_15 : decode cX1_becomeShifted 15 = .ok (.bipush 12, 2) := by decide +kernel
theorem dX1_becomeShifted_17 : decode cX1_becomeShifted 17 = .ok (.if_icmp .ge 55, 3) := by decide +kernel
theorem dX1_becomeShifted_20 : decode cX1_becomeShifted 20 = .ok (.aload_n 1, 1) := by decide +kernel
theorem dX1_becomeShifted_21 : decode cX1_becomeShifted 21 = .ok (.iload 5, 2) := by decide +kernel
theorem dX1_becomeShifted_23 : decode cX1_becomeShifted 23 = .ok (.iload_n 2, 1) := by decide +kernel
theorem dX1_becomeShifted_24 : decode cX1_becomeShifted 24 = .ok (.isub, 1) := by decide +kernel
theorem dX1_becomeShifted_25 : decode cX1_becomeShifted 25 = .ok (.iload 6, 2) := by decide +kernel
theorem dX1_becomeShifted_27 : decode cX1_becomeShifted 27 = .ok (.iload_n 3, 1) := by decide +kernel
theorem dX1_becomeShifted_28 : decode cX1_becomeShifted 28 = .ok (.isub, 1) := by decide +kernel
theorem dX1_becomeShifted_29 : decode cX1_becomeShifted 29 = .ok (.invokevirtual 19, 3) := by decide +kernel
theorem dX1_becomeShifted_32 : decode cX1_becomeShifted 32 = .ok (.istore 7, 2) := by decide +kernel
theorem dX1_becomeShifted_34 : decode cX1_becomeShifted 34 = .ok (.aload_n 0, 1) := by decide +kernel
theorem dX1_becomeShifted_35 : decode cX1_becomeShifted 35 = .ok (.getfield 9, 3) := by decide +kernel
theorem dX1_becomeShifted_38 : decode cX1_becomeShifted 38 = .ok (.iload 5, 2) := by decide +kernel
theorem dX1_becomeShifted_40 : decode cX1_becomeShifted 40 = .ok (.bipush 12, 2) := by decide +kernel
theorem dX1_becomeShifted_42 : decode cX1_becomeShifted 42 = .ok (.imul, 1) := by decide +kernel
theorem dX1_becomeShifted_43 : decode cX1_becomeShifted 43 = .ok (.iload 6, 2) := by decide +kernel
theorem dX1_becomeShifted_45 : decode cX1_becomeShifted 45 = .ok (.iadd, 1) := by decide +kernel
theorem dX1_becomeShifted_46 : decode cX1_becomeShifted 46 = .ok (.iload 4, 2) := by decide +kernel
theorem dX1_becomeShifted_48 : decode cX1_becomeShifted 48 = .ok (.ifCond .ge 12, 3) := by decide +kernel
theorem dX1_becomeShifted_51 : decode cX1_becomeShifted 51 = .ok (.iload 7, 2) := by decide +kernel
theorem dX1_becomeShifted_53 : decode cX1_becomeShifted 53 = .ok (.iload 4, 2) := by decide +kernel
theorem dX1_becomeShifted_55 : decode cX1_becomeShifted 55 = .ok (.ineg, 1) := by decide +kernel
theorem dX1_becomeShifted_56 : decode cX1_becomeShifted 56 = .ok (.ishr, 1) := by decide +kernel
theorem dX1_becomeShifted_57 : decode cX1_becomeShifted 57 = .ok (.goto 8, 3) := by decide +kernel
theorem dX1_becomeShifted_60 : decode cX1_becomeShifted 60 = .ok (.iload 7, 2) := by decide +kernel
theorem dX1_becomeShifted_62 : decode cX1_becomeShifted 62 = .ok (.iload 4, 2) := by decide +kernel
theorem dX1_becomeShifted_64 : decode cX1_becomeShifted 64 = .ok (.ishl, 1) := by decide +kernel
theorem dX1_becomeShifted_65 : decode cX1_becomeShifted 65 = .ok (.iastore, 1) := by decide +kernel
theorem dX1_becomeShifted_66 : decode cX1_becomeShifted 66 = .ok (.iinc 6 1, 3) := by decide +kernel
theorem dX1_becomeShifted_69 : decode cX1_becomeShifted 69 = .ok (.goto (-56), 3) := by decide +kernel
theorem dX1_becomeShifted_72 : decode cX1_becomeShifted 72 = .ok (.iinc 5 1, 3) := by decide +kernel
theorem dX1_becomeShifted_75 : decode cX1_becomeShifted 75 = .ok (.goto (-72), 3) := by decide +kernel
theorem dX1_becomeShifted_78 : decode cX1_becomeShifted 78 = .ok (.return_, 1) := by decide +kernel
theorem dX1_becomeSwept_0 : decode cX1_becomeSwept 0 = .ok (.iload 4, 2) := by decide +kernel
theorem dX1_becomeSwept_2 : decode cX1_becomeSwept 2 = .ok (.iload 5, 2) := by decide +kernel
theorem dX1_becomeSwept_4 : decode cX1_becomeSwept 4 = .ok (.invokestatic 27, 3) := by decide +kernel
theorem dX1_becomeSwept_7 : decode cX1_becomeSwept 7 = .ok (.istore 6, 2) := by decide +kernel
theorem dX1_becomeSwept_9 : decode cX1_becomeSwept 9 = .ok (.iconst 0, 1) := by decide +kernel
theorem dX1_becomeSwept_10 : decode cX1_becomeSwept 10 = .ok (.istore 7, 2) := by decide +kernel
theorem dX1_becomeSwept_12 : decode cX1_becomeSwept 12 = .ok (.iload 7, 2) := by decide +kernel
theorem dX1_becomeSwept_14 : decode cX1_becomeSwept 14 = .ok (.bipush 12, 2) := by decide +kernel
theorem dX1_becomeSwept_16 : decode cX1_becomeSwept 16 = .ok (.if_icmp .ge 133, 3) := by decide +kernel
theorem dX1_becomeSwept_19 : decode cX1_becomeSwept 19 = .ok (.iconst 0, 1) := by decide +kernel
theorem dX1_becomeSwept_20 : decode cX1_becomeSwept 20 = .ok (.istore 8, 2) := by decide +kernel
theorem dX1_becomeSwept_22 : decode cX1_becomeSwept 22 = .ok (.iload 8, 2) := by decide +kernel
theorem dX1_becomeSwept_24 : decode cX1_becomeSwept 24 = .ok (.bipush 12, 2) := by decide +kernel
theorem dX1_becomeSwept_26 : decode cX1_becomeSwept 26 = .ok (.if_icmp .ge 117, 3) := by decide +kernel
theorem dX1_becomeSwept_29 : decode cX1_becomeSwept 29 = .ok (.iload_n 2, 1) := by decide +kernel
theorem dX1_becomeSwept_30 : decode cX1_becomeSwept 30 = .ok (.ifCond .ne 33, 3) := by decide +kernel
theorem dX1_becomeSwept_33 : decode cX1_becomeSwept 33 = .ok (.iload 7, 2) := by decide +kernel
theorem dX1_becomeSwept_35 : decode cX1_becomeSwept 35 = .ok (.iload 4, 2) := by decide +kernel
theorem dX1_becomeSwept_37 : decode cX1_becomeSwept 37 = .ok (.if_icmp .lt 20, 3) := by decide +kernel
theorem dX1_becomeSwept_40 : decode cX1_becomeSwept 40 = .ok (.iload 7, 2) := by decide +kernel
theorem dX1_becomeSwept_42 : decode cX1_becomeSwept 42 = .ok (.iload 5, 2) := by decide +kernel
theorem dX1_becomeSwept_44 : decode cX1_becomeSwept 44 = .ok (.if_icmp .gt 13, 3) := by decide +kernel
theorem dX1_becomeSwept_47 : decode cX1_becomeSwept 47 = .ok (.aload_n 1, 1) := by decide +kernel
theorem dX1_becomeSwept_48 : decode cX1_becomeSwept 48 = .ok (.iload_n 3, 1) := by decide +kernel
theorem dX1_becomeSwept_49 : decode cX1_becomeSwept 49 = .ok (.iload 8, 2) := by decide +kernel
theorem dX1_becomeSwept_51 : decode cX1_becomeSwept 51 = .ok (.invokevirtual 19, 3) := by decide +kernel
theorem dX1_becomeSwept_54 : decode cX1_becomeSwept 54 = .ok (.goto 4, 3) := by decide +kernel
theorem dX1_becomeSwept_57 : decode cX1_becomeSwept 57 = .ok (.iconst 0, 1) := by decide +kernel
theorem dX1_becomeSwept_58 : decode cX1_becomeSwept 58 = .ok (.istore 9, 2) := by decide +kernel
theorem dX1_becomeSwept_60 : decode cX1_becomeSwept 60 = .ok (.goto 62, 3) := by decide +kernel
theorem dX1_becomeSwept_63 : decode cX1_becomeSwept 63 = .ok (.iload_n 2, 1) := by decide +kernel
theorem dX1_becomeSwept_64 : decode cX1_becomeSwept 64 = .ok (.iconst 1, 1) := by decide +kernel
theorem dX1_becomeSwept_65 : decode cX1_becomeSwept 65 = .ok (.if_icmp .ne 33, 3) := by decide +kernel
theorem dX1_becomeSwept_68 : decode cX1_becomeSwept 68 = .ok (.iload 8, 2) := by decide +kernel
theorem dX1_becomeSwept_70 : decode cX1_becomeSwept 70 = .ok (.iload 4, 2) := by decide +kernel
theorem dX1_becomeSwept_72 : decode cX1_becomeSwept 72 = .ok (.if_icmp .lt 20, 3) := by decide +kernel
theorem dX1_becomeSwept_75 : decode cX1_becomeSwept 75 = .ok (.iload 8, 2) := by decide +kernel
theorem dX1_becomeSwept_77 : decode cX1_becomeSwept 77 = .ok (.iload 5, 2) := by decide +kernel
theorem dX1_becomeSwept_79 : decode cX1_becomeSwept 79 = .ok (.if_icmp .gt 13, 3) := by decide +kernel
theorem dX1_becomeSwept_82 : decode cX1_becomeSwept 82 = .ok (.aload_n 1, 1) := by decide +kernel
theorem dX1_becomeSwept_83 : decode cX1_becomeSwept 83 = .ok (.iload 7, 2) := by decide +kernel
theorem dX1_becomeSwept_85 : decode cX1_becomeSwept 85 = .ok (.iload_n 3, 1) := by decide +kernel
theorem dX1_becomeSwept_86 : decode cX1_becomeSwept 86 = .ok (.invokevirtual 19, 3) := by decide +kernel
theorem dX1_becomeSwept_89 : decode cX1_becomeSwept 89 = .ok (.goto 4, 3) := by decide +kernel
theorem dX1_becomeSwept_92 : decode cX1_becomeSwept 92 = .ok (.iconst 0, 1) := by decide +kernel
theorem dX1_becomeSwept_93 : decode cX1_becomeSwept 93 = .ok (.istore 9, 2) := by decide +kernel
theorem dX1_becomeSwept_95 : decode cX1_becomeSwept 95 = .ok (.goto 27, 3) := by decide +kernel
theorem dX1_becomeSwept_98 : decode cX1_becomeSwept 98 = .ok (.aload_n 1, 1) := by decide +kernel
theorem dX1_becomeSwept_99 : decode cX1_becomeSwept 99 = .ok (.iload 7, 2) := by decide +kernel
theorem dX1_becomeSwept_101 : decode cX1_becomeSwept 101 = .ok (.iload 8, 2) := by decide +kernel
theorem dX1_becomeSwept_103 : decode cX1_becomeSwept 103 = .ok (.invokevirtual 19, 3) := by decide +kernel
theorem dX1_becomeSwept_106 : decode cX1_becomeSwept 106 = .ok (.iload_n 3, 1) := by decide +kernel
theorem dX1_becomeSwept_107 : decode cX1_becomeSwept 107 = .ok (.ishr, 1) := by decide +kernel
theorem dX1_becomeSwept_108 : decode cX1_becomeSwept 108 = .ok (.iconst 1, 1) := by decide +kernel
theorem dX1_becomeSwept_109 : decode cX1_becomeSwept 109 = .ok (.iand, 1) := by decide +kernel
theorem dX1_becomeSwept_110 : decode cX1_becomeSwept 110 = .ok (.iconst 1, 1) := by decide +kernel
theorem dX1_becomeSwept_111 : decode cX1_becomeSwept 111 = .ok (.if_icmp .ne 8, 3) := by decide +kernel
theorem dX1_becomeSwept_114 : decode cX1_becomeSwept 114 = .ok (.iload 6, 2) := by decide +kernel
theorem dX1_becomeSwept_116 : decode cX1_becomeSwept 116 = .ok (.goto 4, 3) := by decide +kernel
theorem dX1_becomeSwept_119 : decode cX1_becomeSwept 119 = .ok (.iconst 0, 1) := by decide +kernel
theorem dX1_becomeSwept_120 : decode cX1_becomeSwept 120 = .ok (.istore 9, 2) := by decide +kernel
theorem dX1_becomeSwept_122 : decode cX1_becomeSwept 122 = .ok (.aload_n 0, 1) := by decide +kernel
theorem dX1_becomeSwept_123 : decode cX1_becomeSwept 123 = .ok (.getfield 9, 3) := by decide +kernel
theorem dX1_becomeSwept_126 : decode cX1_becomeSwept 126 = .ok (.iload 7, 2) := by decide +kernel
theorem dX1_becomeSwept_128 : decode cX1_becomeSwept 128 = .ok (.bipush 12, 2) := by decide +kernel
theorem dX1_becomeSwept_130 : decode cX1_becomeSwept 130 = .ok (.imul, 1) := by decide +kernel
theorem dX1_becomeSwept_131 : decode cX1_becomeSwept 131 = .ok (.iload 8, 2) := by decide +kernel
theorem dX1_becomeSwept_133 : decode cX1_becomeSwept 133 = .ok (.iadd, 1) := by decide +kernel
theorem dX1_becomeSwept_134 : decode cX1_becomeSwept 134 = .ok (.iload 9, 2) := by decide +kernel
theorem dX1_becomeSwept_136 : decode cX1_becomeSwept 136 = .ok (.iastore, 1) := by decide +kernel
theorem dX1_becomeSwept_137 : decode cX1_becomeSwept 137 = .ok (.iinc 8 1, 3) := by decide +kernel
theorem dX1_becomeSwept_140 : decode cX1_becomeSwept 140 = .ok (.goto (-118), 3) := by decide +kernel
theorem dX1_becomeSwept_143 : decode cX1_becomeSwept 143 = .ok (.iinc 7 1, 3) := by decide +kernel
theorem dX1_becomeSwept_146 : decode cX1_becomeSwept 146 = .ok (.goto (-134), 3) := by decide +kernel
theorem dX1_becomeSwept_149 : decode cX1_becomeSwept 149 = .ok (.return_, 1) := by decide +kernel
theorem dX1_countCells_0 : decode cX1_countCells 0 = .ok (.iconst 0, 1) := by decide +kernel
theorem dX1_countCells_1 : decode cX1_countCells 1 = .ok (.istore_n 1, 1) := by decide +kernel
theorem dX1_countCells_2 : decode cX1_countCells 2 = .ok (.iconst 0, 1) := by decide +kernel
theorem dX1_countCells_3 : decode cX1_countCells 3 = .ok (.istore_n 2, 1) := by decide +kernel
theorem dX1_countCells_4 : decode cX1_countCells 4 = .ok (.iload_n 2, 1) := by decide +kernel
theorem dX1_countCells_5 : decode cX1_countCells 5 = .ok (.sipush 144, 3) := by decide +kernel
theorem dX1_countCells_8 : decode cX1_countCells 8 = .ok (.if_icmp .ge 21, 3) := by decide +kernel
theorem dX1_countCells_11 : decode cX1_countCells 11 = .ok (.iload_n 1, 1) := by decide +kernel
theorem dX1_countCells_12 : decode cX1_countCells 12 = .ok (.aload_n 0, 1) := by decide +kernel
theorem dX1_countCells_13 : decode cX1_countCells 13 = .ok (.getfield 9, 3) := by decide +kernel
theorem dX1_countCells_16 : decode cX1_countCells 16 = .ok (.iload_n 2, 1) := by decide +kernel
theorem dX1_countCells_17 : decode cX1_countCells 17 = .ok (.iaload, 1) := by decide +kernel
theorem dX1_countCells_18 : decode cX1_countCells 18 = .ok (.invokestatic 40, 3) := by decide +kernel
theorem dX1_countCells_21 : decode cX1_countCells 21 = .ok (.iadd, 1) := by decide +kernel
theorem dX1_countCells_22 : decode cX1_countCells 22 = .ok (.istore_n 1, 1) := by decide +kernel
theorem dX1_countCells_23 : decode cX1_countCells 23 = .ok (.iinc 2 1, 3) := by decide +kernel
theorem dX1_countCells_26 : decode cX1_countCells 26 = .ok (.goto (-22), 3) := by decide +kernel
theorem dX1_countCells_29 : decode cX1_countCells 29 = .ok (.iload_n 1, 1) := by decide +kernel
theorem dX1_countCells_30 : decode cX1_countCells 30 = .ok (.ireturn, 1) := by decide +kernel
theorem dX1_countLayer_0 : decode cX1_countLayer 0 = .ok (.iconst 0, 1) := by decide +kernel
theorem dX1_countLayer_1 : decode cX1_countLayer 1 = .ok (.istore_n 3, 1) := by decide +kernel
theorem dX1_countLayer_2 : decode cX1_countLayer 2 = .ok (.iconst 0, 1) := by decide +kernel
theorem dX1_countLayer_3 : decode cX1_countLayer 3 = .ok (.istore 4, 2) := by decide +kernel
theorem dX1_countLayer_5 : decode cX1_countLayer 5 = .ok (.iload 4, 2) := by decide +kernel
theorem dX1_countLayer_7 : decode cX1_countLayer 7 = .ok (.bipush 12, 2) := by decide +kernel
theorem dX1_countLayer_9 : decode cX1_countLayer 9 = .ok (.if_icmp .ge 64, 3) := by decide +kernel
theorem dX1_countLayer_12 : decode cX1_countLayer 12 = .ok (.iload_n 1, 1) := by decide +kernel
theorem dX1_countLayer_13 : decode cX1_countLayer 13 = .ok (.ifCond .ne 19, 3) := by decide +kernel
theorem dX1_countLayer_16 : decode cX1_countLayer 16 = .ok (.iload_n 3, 1) := by decide +kernel
theorem dX1_countLayer_17 : decode cX1_countLayer 17 = .ok (.aload_n 0, 1) := by decide +kernel
theorem dX1_countLayer_18 : decode cX1_countLayer 18 = .ok (.iload_n 2, 1) := by decide +kernel
theorem dX1_countLayer_19 : decode cX1_countLayer 19 = .ok (.iload 4, 2) := by decide +kernel
theorem dX1_countLayer_21 : decode cX1_countLayer 21 = .ok (.invokevirtual 19, 3) := by decide +kernel
theorem dX1_countLayer_24 : decode cX1_countLayer 24 = .ok (.invokestatic 40, 3) := by decide +kernel
theorem dX1_countLayer_27 : decode cX1_countLayer 27 = .ok (.iadd, 1) := by decide +kernel
theorem dX1_countLayer_28 : decode cX1_countLayer 28 = .ok (.istore_n 3, 1) := by decide +kernel
theorem dX1_countLayer_29 : decode cX1_countLayer 29 = .ok (.goto 38, 3) := by decide +kernel
theorem dX1_countLayer_32 : decode cX1_countLayer 32 = .ok (.iload_n 1, 1) := by decide +kernel
theorem dX1_countLayer_33 : decode cX1_countLayer 33 = .ok (.iconst 1, 1) := by decide +kernel
theorem dX1_countLayer_34 : decode cX1_countLayer 34 = .ok (.if_icmp .ne 19, 3) := by decide +kernel
theorem dX1_countLayer_37 : decode cX1_countLayer 37 = .ok (.iload_n 3, 1) := by decide +kernel
theorem dX1_countLayer_38 : decode cX1_countLayer 38 = .ok (.aload_n 0, 1) := by decide +kernel
theorem dX1_countLayer_39 : decode cX1_countLayer 39 = .ok (.iload 4, 2) := by decide +kernel
theorem dX1_countLayer_41 : decode cX1_countLayer 41 = .ok (.iload_n 2, 1) := by decide +kernel
theorem dX1_countLayer_42 : decode cX1_countLayer 42 = .ok (.invokevirtual 19, 3) := by decide +kernel
theorem dX1_countLayer_45 : decode cX1_countLayer 45 = .ok (.invokestatic 40, 3) := by decide +kernel
theorem dX1_countLayer_48 : decode cX1_countLayer 48 = .ok (.iadd, 1) := by decide +kernel
theorem dX1_countLayer_49 : decode cX1_countLayer 49 = .ok (.istore_n 3, 1) := by decide +kernel
theorem dX1_countLayer_50 : decode cX1_countLayer 50 = .ok (.goto 17, 3) := by decide +kernel
theorem dX1_countLayer_53 : decode cX1_countLayer 53 = .ok (.iload_n 3, 1) := by decide +kernel
theorem dX1_countLayer_54 : decode cX1_countLayer 54 = .ok (.aload_n 0, 1) := by decide +kernel
theorem dX1_countLayer_55 : decode cX1_countLayer 55 = .ok (.iconst 0, 1) := by decide +kernel
theorem dX1_countLayer_56 : decode cX1_countLayer 56 = .ok (.iload 4, 2) := by decide +kernel
theorem dX1_countLayer_58 : decode cX1_countLayer 58 = .ok (.iload_n 2, 1) := by decide +kernel
theorem dX1_countLayer_59 : decode cX1_countLayer 59 = .ok (.invokevirtual 23, 3) := by decide +kernel
theorem dX1_countLayer_62 : decode cX1_countLayer 62 = .ok (.invokestatic 40, 3) := by decide +kernel
theorem dX1_countLayer_65 : decode cX1_countLayer 65 = .ok (.iadd, 1) := by decide +kernel
theorem dX1_countLayer_66 : decode cX1_countLayer 66 = .ok (.istore_n 3, 1) := by decide +kernel
theorem dX1_countLayer_67 : decode cX1_countLayer 67 = .ok (.iinc 4 1, 3) := by decide +kernel
theorem dX1_countLayer_70 : decode cX1_countLayer 70 = .ok (.goto (-65), 3) := by decide +kernel
theorem dX1_countLayer_73 : decode cX1_countLayer 73 = .ok (.iload_n 3, 1) := by decide +kernel
theorem dX1_countLayer_74 : decode cX1_countLayer 74 = .ok (.ireturn, 1) := by decide +kernel
theorem dX1_leastAlong_0 : decode cX1_leastAlong 0 = .ok (.iconst 0, 1) := by decide +kernel
theorem dX1_leastAlong_1 : decode cX1_leastAlong 1 = .ok (.istore_n 2, 1) := by decide +kernel
theorem dX1_leastAlong_2 : decode cX1_leastAlong 2 = .ok (.iload_n 2, 1) := by decide +kernel
theorem dX1_leastAlong_3 : decode cX1_leastAlong 3 = .ok (.bipush 12, 2) := by decide +kernel
theorem dX1_leastAlong_5 : decode cX1_leastAlong 5 = .ok (.if_icmp .ge 20, 3) := by decide +kernel
theorem dX1_leastAlong_8 : decode cX1_leastAlong 8 = .ok (.aload_n 0, 1) := by decide +kernel
theorem dX1_leastAlong_9 : decode cX1_leastAlong 9 = .ok (.iload_n 1, 1) := by decide +kernel
theorem dX1_leastAlong_10 : decode cX1_leastAlong 10 = .ok (.iload_n 2, 1) := by decide +kernel
theorem dX1_leastAlong_11 : decode cX1_leastAlong 11 = .ok (.invokevirtual 46, 3) := by decide +kernel
theorem dX1_leastAlong_14 : decode cX1_leastAlong 14 = .ok (.ifCond .le 5, 3) := by decide +kernel
theorem dX1_leastAlong_17 : decode cX1_leastAlong 17 = .ok (.iload_n 2, 1) := by decide +kernel
theorem dX1_leastAlong_18 : decode cX1_leastAlong 18 = .ok (.ireturn, 1) := by decide +kernel
theorem dX1_leastAlong_19 : decode cX1_leastAlong 19 = .ok (.iinc 2 1, 3) := by decide +kernel
theorem dX1_leastAlong_22 : decode cX1_leastAlong 22 = .ok (.goto (-20), 3) := by decide +kernel
theorem dX1_leastAlong_25 : decode cX1_leastAlong 25 = .ok (.bipush 12, 2) := by decide +kernel
theorem dX1_leastAlong_27 : decode cX1_leastAlong 27 = .ok (.ireturn, 1) := by decide +kernel
theorem dX1_greatestAlong_0 : decode cX1_greatestAlong 0 = .ok (.bipush 11, 2) := by decide +kernel
theorem dX1_greatestAlong_2 : decode cX1_greatestAlong 2 = .ok (.istore_n 2, 1) := by decide +kernel
theorem dX1_greatestAlong_3 : decode cX1_greatestAlong 3 = .ok (.iload_n 2, 1) := by decide +kernel
theorem dX1_greatestAlong_4 : decode cX1_greatestAlong 4 = .ok (.ifCond .lt 20, 3) := by decide +kernel
theorem dX1_greatestAlong_7 : decode cX1_greatestAlong 7 = .ok (.aload_n 0, 1) := by decide +kernel
theorem dX1_greatestAlong_8 : decode cX1_greatestAlong 8 = .ok (.iload_n 1, 1) := by decide +kernel
theorem dX1_greatestAlong_9 : decode cX1_greatestAlong 9 = .ok (.iload_n 2, 1) := by decide +kernel
theorem dX1_greatestAlong_10 : decode cX1_greatestAlong 10 = .ok (.invokevirtual 46, 3) := by decide +kernel
theorem dX1_greatestAlong_13 : decode cX1_greatestAlong 13 = .ok (.ifCond .le 5, 3) := by decide +kernel
theorem dX1_greatestAlong_16 : decode cX1_greatestAlong 16 = .ok (.iload_n 2, 1) := by decide +kernel
theorem dX1_greatestAlong_17 : decode cX1_greatestAlong 17 = .ok (.ireturn, 1) := by decide +kernel
theorem dX1_greatestAlong_18 : decode cX1_greatestAlong 18 = .ok (.iinc 2 (-1), 3) := by decide +kernel
theorem dX1_greatestAlong_21 : decode cX1_greatestAlong 21 = .ok (.goto (-18), 3) := by decide +kernel
theorem dX1_greatestAlong_24 : decode cX1_greatestAlong 24 = .ok (.bipush 12, 2) := by decide +kernel
theorem dX1_greatestAlong_26 : decode cX1_greatestAlong 26 = .ok (.ireturn, 1) := by decide +kernel
theorem dX1_countSides_0 : decode cX1_countSides 0 = .ok (.iconst 0, 1) := by decide +kernel
theorem dX1_countSides_1 : decode cX1_countSides 1 = .ok (.istore_n 1, 1) := by decide +kernel
theorem dX1_countSides_2 : decode cX1_countSides 2 = .ok (.iconst 0, 1) := by decide +kernel
theorem dX1_countSides_3 : decode cX1_countSides 3 = .ok (.istore_n 2, 1) := by decide +kernel
theorem dX1_countSides_4 : decode cX1_countSides 4 = .ok (.iload_n 2, 1) := by decide +kernel
theorem dX1_countSides_5 : decode cX1_countSides 5 = .ok (.bipush 12, 2) := by decide +kernel
theorem dX1_countSides_7 : decode cX1_countSides 7 = .ok (.if_icmp .gt 78, 3) := by decide +kernel
theorem dX1_countSides_10 : decode cX1_countSides 10 = .ok (.iconst 0, 1) := by decide +kernel
theorem dX1_countSides_11 : decode cX1_countSides 11 = .ok (.istore_n 3, 1) := by decide +kernel
theorem dX1_countSides_12 : decode cX1_countSides 12 = .ok (.iload_n 3, 1) := by decide +kernel
theorem dX1_countSides_13 : decode cX1_countSides 13 = .ok (.bipush 12, 2) := by decide +kernel
theorem dX1_countSides_15 : decode cX1_countSides 15 = .ok (.if_icmp .gt 64, 3) := by decide +kernel
theorem dX1_countSides_18 : decode cX1_countSides 18 = .ok (.aload_n 0, 1) := by decide +kernel
theorem dX1_countSides_19 : decode cX1_countSides 19 = .ok (.iload_n 2, 1) := by decide +kernel
theorem dX1_countSides_20 : decode cX1_countSides 20 = .ok (.iload_n 3, 1) := by decide +kernel
theorem dX1_countSides_21 : decode cX1_countSides 21 = .ok (.invokevirtual 19, 3) := by decide +kernel
theorem dX1_countSides_24 : decode cX1_countSides 24 = .ok (.istore 4, 2) := by decide +kernel
theorem dX1_countSides_26 : decode cX1_countSides 26 = .ok (.iload_n 1, 1) := by decide +kernel
theorem dX1_countSides_27 : decode cX1_countSides 27 = .ok (.iload 4, 2) := by decide +kernel
theorem dX1_countSides_29 : decode cX1_countSides 29 = .ok (.aload_n 0, 1) := by decide +kernel
theorem dX1_countSides_30 : decode cX1_countSides 30 = .ok (.iload_n 2, 1) := by decide +kernel
theorem dX1_countSides_31 : decode cX1_countSides 31 = .ok (.iconst 1, 1) := by decide +kernel
theorem dX1_countSides_32 : decode cX1_countSides 32 = .ok (.isub, 1) := by decide +kernel
theorem dX1_countSides_33 : decode cX1_countSides 33 = .ok (.iload_n 3, 1) := by decide +kernel
theorem dX1_countSides_34 : decode cX1_countSides 34 = .ok (.invokevirtual 19, 3) := by decide +kernel
theorem dX1_countSides_37 : decode cX1_countSides 37 = .ok (.ixor, 1) := by decide +kernel
theorem dX1_countSides_38 : decode cX1_countSides 38 = .ok (.invokestatic 40, 3) := by decide +kernel
theorem dX1_countSides_41 : decode cX1_countSides 41 = .ok (.iadd, 1) := by decide +kernel
theorem dX1_countSides_42 : decode cX1_countSides 42 = .ok (.istore_n 1, 1) := by decide +kernel
theorem dX1_countSides_43 : decode cX1_countSides 43 = .ok (.iload_n 1, 1) := by decide +kernel
theorem dX1_countSides_44 : decode cX1_countSides 44 = .ok (.iload 4, 2) := by decide +kernel
theorem dX1_countSides_46 : decode cX1_countSides 46 = .ok (.aload_n 0, 1) := by decide +kernel
theorem dX1_countSides_47 : decode cX1_countSides 47 = .ok (.iload_n 2, 1) := by decide +kernel
theorem dX1_countSides_48 : decode cX1_countSides 48 = .ok (.iload_n 3, 1) := by decide +kernel
theorem dX1_countSides_49 : decode cX1_countSides 49 = .ok (.iconst 1, 1) := by decide +kernel
theorem dX1_countSides_50 : decode cX1_countSides 50 = .ok (.isub, 1) := by decide +kernel
theorem dX1_countSides_51 : decode cX1_countSides 51 = .ok (.invokevirtual 19, 3) := by decide +kernel
theorem dX1_countSides_54 : decode cX1_countSides 54 = .ok (.ixor, 1) := by decide +kernel
theorem dX1_countSides_55 : decode cX1_countSides 55 = .ok (.invokestatic 40, 3) := by decide +kernel
theorem dX1_countSides_58 : decode cX1_countSides 58 = .ok (.iadd, 1) := by decide +kernel
theorem dX1_countSides_59 : decode cX1_countSides 59 = .ok (.istore_n 1, 1) := by decide +kernel
theorem dX1_countSides_60 : decode cX1_countSides 60 = .ok (.iload_n 1, 1) := by decide +kernel
theorem dX1_countSides_61 : decode cX1_countSides 61 = .ok (.iload 4, 2) := by decide +kernel
theorem dX1_countSides_63 : decode cX1_countSides 63 = .ok (.iload 4, 2) := by decide +kernel
theorem dX1_countSides_65 : decode cX1_countSides 65 = .ok (.iconst 1, 1) := by decide +kernel
theorem dX1_countSides_66 : decode cX1_countSides 66 = .ok (.ishl, 1) := by decide +kernel
theorem dX1_countSides_67 : decode cX1_countSides 67 = .ok (.ixor, 1) := by decide +kernel
theorem dX1_countSides_68 : decode cX1_countSides 68 = .ok (.invokestatic 40, 3) := by decide +kernel
theorem dX1_countSides_71 : decode cX1_countSides 71 = .ok (.iadd, 1) := by decide +kernel
theorem dX1_countSides_72 : decode cX1_countSides 72 = .ok (.istore_n 1, 1) := by decide +kernel
theorem dX1_countSides_73 : decode cX1_countSides 73 = .ok (.iinc 3 1, 3) := by decide +kernel
theorem dX1_countSides_76 : decode cX1_countSides 76 = .ok (.goto (-64), 3) := by decide +kernel
theorem dX1_countSides_79 : decode cX1_countSides 79 = .ok (.iinc 2 1, 3) := by decide +kernel
theorem dX1_countSides_82 : decode cX1_countSides 82 = .ok (.goto (-78), 3) := by decide +kernel
theorem dX1_countSides_85 : decode cX1_countSides 85 = .ok (.iload_n 1, 1) := by decide +kernel
theorem dX1_countSides_86 : decode cX1_countSides 86 = .ok (.ireturn, 1) := by decide +kernel
theorem dX1_countEdges_0 : decode cX1_countEdges 0 = .ok (.iconst 0, 1) := by decide +kernel
theorem dX1_countEdges_1 : decode cX1_countEdges 1 = .ok (.istore_n 1, 1) := by decide +kernel
theorem dX1_countEdges_2 : decode cX1_countEdges 2 = .ok (.iconst 0, 1) := by decide +kernel
theorem dX1_countEdges_3 : decode cX1_countEdges 3 = .ok (.istore_n 2, 1) := by decide +kernel
theorem dX1_countEdges_4 : decode cX1_countEdges 4 = .ok (.iload_n 2, 1) := by decide +kernel
theorem dX1_countEdges_5 : decode cX1_countEdges 5 = .ok (.bipush 12, 2) := by decide +kernel
theorem dX1_countEdges_7 : decode cX1_countEdges 7 = .ok (.if_icmp .gt 106, 3) := by decide +kernel
theorem dX1_countEdges_10 : decode cX1_countEdges 10 = .ok (.iconst 0, 1) := by decide +kernel
theorem dX1_countEdges_11 : decode cX1_countEdges 11 = .ok (.istore_n 3, 1) := by decide +kernel
theorem dX1_countEdges_12 : decode cX1_countEdges 12 = .ok (.iload_n 3, 1) := by decide +kernel
theorem dX1_countEdges_13 : decode cX1_countEdges 13 = .ok (.bipush 12, 2) := by decide +kernel
theorem dX1_countEdges_15 : decode cX1_countEdges 15 = .ok (.if_icmp .gt 92, 3) := by decide +kernel
theorem dX1_countEdges_18 : decode cX1_countEdges 18 = .ok (.aload_n 0, 1) := by decide +kernel
theorem dX1_countEdges_19 : decode cX1_countEdges 19 = .ok (.iload_n 2, 1) := by decide +kernel
theorem dX1_countEdges_20 : decode cX1_countEdges 20 = .ok (.iload_n 3, 1) := by decide +kernel
theorem dX1_countEdges_21 : decode cX1_countEdges 21 = .ok (.invokevirtual 19, 3) := by decide +kernel
theorem dX1_countEdges_24 : decode cX1_countEdges 24 = .ok (.istore 4, 2) := by decide +kernel
theorem dX1_countEdges_26 : decode cX1_countEdges 26 = .ok (.aload_n 0, 1) := by decide +kernel
theorem dX1_countEdges_27 : decode cX1_countEdges 27 = .ok (.iload_n 2, 1) := by decide +kernel
theorem dX1_countEdges_28 : decode cX1_countEdges 28 = .ok (.iconst 1, 1) := by decide +kernel
theorem dX1_countEdges_29 : decode cX1_countEdges 29 = .ok (.isub, 1) := by decide +kernel
theorem dX1_countEdges_30 : decode cX1_countEdges 30 = .ok (.iload_n 3, 1) := by decide +kernel
theorem dX1_countEdges_31 : decode cX1_countEdges 31 = .ok (.invokevirtual 19, 3) := by decide +kernel
theorem dX1_countEdges_34 : decode cX1_countEdges 34 = .ok (.istore 5, 2) := by decide +kernel
theorem dX1_countEdges_36 : decode cX1_countEdges 36 = .ok (.aload_n 0, 1) := by decide +kernel
theorem dX1_countEdges_37 : decode cX1_countEdges 37 = .ok (.iload_n 2, 1) := by decide +kernel
theorem dX1_countEdges_38 : decode cX1_countEdges 38 = .ok (.iload_n 3, 1) := by decide +kernel
theorem dX1_countEdges_39 : decode cX1_countEdges 39 = .ok (.iconst 1, 1) := by decide +kernel
theorem dX1_countEdges_40 : decode cX1_countEdges 40 = .ok (.isub, 1) := by decide +kernel
theorem dX1_countEdges_41 : decode cX1_countEdges 41 = .ok (.invokevirtual 19, 3) := by decide +kernel
theorem dX1_countEdges_44 : decode cX1_countEdges 44 = .ok (.istore 6, 2) := by decide +kernel
theorem dX1_countEdges_46 : decode cX1_countEdges 46 = .ok (.aload_n 0, 1) := by decide +kernel
theorem dX1_countEdges_47 : decode cX1_countEdges 47 = .ok (.iload_n 2, 1) := by decide +kernel
theorem dX1_countEdges_48 : decode cX1_countEdges 48 = .ok (.iconst 1, 1) := by decide +kernel
theorem dX1_countEdges_49 : decode cX1_countEdges 49 = .ok (.isub, 1) := by decide +kernel
theorem dX1_countEdges_50 : decode cX1_countEdges 50 = .ok (.iload_n 3, 1) := by decide +kernel
theorem dX1_countEdges_51 : decode cX1_countEdges 51 = .ok (.iconst 1, 1) := by decide +kernel
theorem dX1_countEdges_52 : decode cX1_countEdges 52 = .ok (.isub, 1) := by decide +kernel
theorem dX1_countEdges_53 : decode cX1_countEdges 53 = .ok (.invokevirtual 19, 3) := by decide +kernel
theorem dX1_countEdges_56 : decode cX1_countEdges 56 = .ok (.istore 7, 2) := by decide +kernel
theorem dX1_countEdges_58 : decode cX1_countEdges 58 = .ok (.iload_n 1, 1) := by decide +kernel
theorem dX1_countEdges_59 : decode cX1_countEdges 59 = .ok (.iload 5, 2) := by decide +kernel
theorem dX1_countEdges_61 : decode cX1_countEdges 61 = .ok (.iload 4, 2) := by decide +kernel
theorem dX1_countEdges_63 : decode cX1_countEdges 63 = .ok (.invokestatic 49, 3) := by decide +kernel
theorem dX1_countEdges_66 : decode cX1_countEdges 66 = .ok (.invokestatic 40, 3) := by decide +kernel
theorem dX1_countEdges_69 : decode cX1_countEdges 69 = .ok (.iadd, 1) := by decide +kernel
theorem dX1_countEdges_70 : decode cX1_countEdges 70 = .ok (.istore_n 1, 1) := by decide +kernel
theorem dX1_countEdges_71 : decode cX1_countEdges 71 = .ok (.iload_n 1, 1) := by decide +kernel
theorem dX1_countEdges_72 : decode cX1_countEdges 72 = .ok (.iload 6, 2) := by decide +kernel
theorem dX1_countEdges_74 : decode cX1_countEdges 74 = .ok (.iload 4, 2) := by decide +kernel
theorem dX1_countEdges_76 : decode cX1_countEdges 76 = .ok (.invokestatic 49, 3) := by decide +kernel
theorem dX1_countEdges_79 : decode cX1_countEdges 79 = .ok (.invokestatic 40, 3) := by decide +kernel
theorem dX1_countEdges_82 : decode cX1_countEdges 82 = .ok (.iadd, 1) := by decide +kernel
theorem dX1_countEdges_83 : decode cX1_countEdges 83 = .ok (.istore_n 1, 1) := by decide +kernel
theorem dX1_countEdges_84 : decode cX1_countEdges 84 = .ok (.iload_n 1, 1) := by decide +kernel
theorem dX1_countEdges_85 : decode cX1_countEdges 85 = .ok (.iload 7, 2) := by decide +kernel
theorem dX1_countEdges_87 : decode cX1_countEdges 87 = .ok (.iload 6, 2) := by decide +kernel
theorem dX1_countEdges_89 : decode cX1_countEdges 89 = .ok (.iload 5, 2) := by decide +kernel
theorem dX1_countEdges_91 : decode cX1_countEdges 91 = .ok (.iload 4, 2) := by decide +kernel
theorem dX1_countEdges_93 : decode cX1_countEdges 93 = .ok (.invokestatic 52, 3) := by decide +kernel
theorem dX1_countEdges_96 : decode cX1_countEdges 96 = .ok (.invokestatic 40, 3) := by decide +kernel
theorem dX1_countEdges_99 : decode cX1_countEdges 99 = .ok (.iadd, 1) := by decide +kernel
theorem dX1_countEdges_100 : decode cX1_countEdges 100 = .ok (.istore_n 1, 1) := by decide +kernel
theorem dX1_countEdges_101 : decode cX1_countEdges 101 = .ok (.iinc 3 1, 3) := by decide +kernel
theorem dX1_countEdges_104 : decode cX1_countEdges 104 = .ok (.goto (-92), 3) := by decide +kernel
theorem dX1_countEdges_107 : decode cX1_countEdges 107 = .ok (.iinc 2 1, 3) := by decide +kernel
theorem dX1_countEdges_110 : decode cX1_countEdges 110 = .ok (.goto (-106), 3) := by decide +kernel
theorem dX1_countEdges_113 : decode cX1_countEdges 113 = .ok (.iload_n 1, 1) := by decide +kernel
theorem dX1_countEdges_114 : decode cX1_countEdges 114 = .ok (.ireturn, 1) := by decide +kernel
theorem dX1_countAround_0 : decode cX1_countAround 0 = .ok (.aload_n 0, 1) := by decide +kernel
theorem dX1_countAround_1 : decode cX1_countAround 1 = .ok (.iload_n 1, 1) := by decide +kernel
theorem dX1_countAround_2 : decode cX1_countAround 2 = .ok (.iconst 1, 1) := by decide +kernel
theorem dX1_countAround_3 : decode cX1_countAround 3 = .ok (.isub, 1) := by decide +kernel
theorem dX1_countAround_4 : decode cX1_countAround 4 = .ok (.iload_n 2, 1) := by decide +kernel
theorem dX1_countAround_5 : decode cX1_countAround 5 = .ok (.iconst 1, 1) := by decide +kernel
theorem dX1_countAround_6 : decode cX1_countAround 6 = .ok (.isub, 1) := by decide +kernel
theorem dX1_countAround_7 : decode cX1_countAround 7 = .ok (.iload_n 3, 1) := by decide +kernel
theorem dX1_countAround_8 : decode cX1_countAround 8 = .ok (.invokevirtual 56, 3) := by decide +kernel
theorem dX1_countAround_11 : decode cX1_countAround 11 = .ok (.aload_n 0, 1) := by decide +kernel
theorem dX1_countAround_12 : decode cX1_countAround 12 = .ok (.iload_n 1, 1) := by decide +kernel
theorem dX1_countAround_13 : decode cX1_countAround 13 = .ok (.iconst 1, 1) := by decide +kernel
theorem dX1_countAround_14 : decode cX1_countAround 14 = .ok (.isub, 1) := by decide +kernel
theorem dX1_countAround_15 : decode cX1_countAround 15 = .ok (.iload_n 2, 1) := by decide +kernel
theorem dX1_countAround_16 : decode cX1_countAround 16 = .ok (.iload_n 3, 1) := by decide +kernel
theorem dX1_countAround_17 : decode cX1_countAround 17 = .ok (.invokevirtual 56, 3) := by decide +kernel
theorem dX1_countAround_20 : decode cX1_countAround 20 = .ok (.iadd, 1) := by decide +kernel
theorem dX1_countAround_21 : decode cX1_countAround 21 = .ok (.aload_n 0, 1) := by decide +kernel
theorem dX1_countAround_22 : decode cX1_countAround 22 = .ok (.iload_n 1, 1) := by decide +kernel
theorem dX1_countAround_23 : decode cX1_countAround 23 = .ok (.iload_n 2, 1) := by decide +kernel
theorem dX1_countAround_24 : decode cX1_countAround 24 = .ok (.iconst 1, 1) := by decide +kernel
theorem dX1_countAround_25 : decode cX1_countAround 25 = .ok (.isub, 1) := by decide +kernel
theorem dX1_countAround_26 : decode cX1_countAround 26 = .ok (.iload_n 3, 1) := by decide +kernel
theorem dX1_countAround_27 : decode cX1_countAround 27 = .ok (.invokevirtual 56, 3) := by decide +kernel
theorem dX1_countAround_30 : decode cX1_countAround 30 = .ok (.iadd, 1) := by decide +kernel
theorem dX1_countAround_31 : decode cX1_countAround 31 = .ok (.aload_n 0, 1) := by decide +kernel
theorem dX1_countAround_32 : decode cX1_countAround 32 = .ok (.iload_n 1, 1) := by decide +kernel
theorem dX1_countAround_33 : decode cX1_countAround 33 = .ok (.iload_n 2, 1) := by decide +kernel
theorem dX1_countAround_34 : decode cX1_countAround 34 = .ok (.iload_n 3, 1) := by decide +kernel
theorem dX1_countAround_35 : decode cX1_countAround 35 = .ok (.invokevirtual 56, 3) := by decide +kernel
theorem dX1_countAround_38 : decode cX1_countAround 38 = .ok (.iadd, 1) := by decide +kernel
theorem dX1_countAround_39 : decode cX1_countAround 39 = .ok (.ireturn, 1) := by decide +kernel
theorem dX1_hasCellsOf_0 : decode cX1_hasCellsOf 0 = .ok (.iconst 0, 1) := by decide +kernel
theorem dX1_hasCellsOf_1 : decode cX1_hasCellsOf 1 = .ok (.istore_n 2, 1) := by decide +kernel
theorem dX1_hasCellsOf_2 : decode cX1_hasCellsOf 2 = .ok (.iload_n 2, 1) := by decide +kernel
theorem dX1_hasCellsOf_3 : decode cX1_hasCellsOf 3 = .ok (.sipush 144, 3) := by decide +kernel
theorem dX1_hasCellsOf_6 : decode cX1_hasCellsOf 6 = .ok (.if_icmp .ge 26, 3) := by decide +kernel
theorem dX1_hasCellsOf_9 : decode cX1_hasCellsOf 9 = .ok (.aload_n 0, 1) := by decide +kernel
theorem dX1_hasCellsOf_10 : decode cX1_hasCellsOf 10 = .ok (.getfield 9, 3) := by decide +kernel
theorem dX1_hasCellsOf_13 : decode cX1_hasCellsOf 13 = .ok (.iload_n 2, 1) := by decide +kernel
theorem dX1_hasCellsOf_14 : decode cX1_hasCellsOf 14 = .ok (.iaload, 1) := by decide +kernel
theorem dX1_hasCellsOf_15 : decode cX1_hasCellsOf 15 = .ok (.aload_n 1, 1) := by decide +kernel
theorem dX1_hasCellsOf_16 : decode cX1_hasCellsOf 16 = .ok (.getfield 9, 3) := by decide +kernel
theorem dX1_hasCellsOf_19 : decode cX1_hasCellsOf 19 = .ok (.iload_n 2, 1) := by decide +kernel
theorem dX1_hasCellsOf_20 : decode cX1_hasCellsOf 20 = .ok (.iaload, 1) := by decide +kernel
theorem dX1_hasCellsOf_21 : decode cX1_hasCellsOf 21 = .ok (.if_icmp .eq 5, 3) := by decide +kernel
theorem dX1_hasCellsOf_24 : decode cX1_hasCellsOf 24 = .ok (.iconst 0, 1) := by decide +kernel
theorem dX1_hasCellsOf_25 : decode cX1_hasCellsOf 25 = .ok (.ireturn, 1) := by decide +kernel
theorem dX1_hasCellsOf_26 : decode cX1_hasCellsOf 26 = .ok (.iinc 2 1, 3) := by decide +kernel
theorem dX1_hasCellsOf_29 : decode cX1_hasCellsOf 29 = .ok (.goto (-27), 3) := by decide +kernel
theorem dX1_hasCellsOf_32 : decode cX1_hasCellsOf 32 = .ok (.iconst 1, 1) := by decide +kernel
theorem dX1_hasCellsOf_33 : decode cX1_hasCellsOf 33 = .ok (.ireturn, 1) := by decide +kernel
theorem dX1_countPair_0 : decode cX1_countPair 0 = .ok (.aload_n 0, 1) := by decide +kernel
theorem dX1_countPair_1 : decode cX1_countPair 1 = .ok (.iload_n 1, 1) := by decide +kernel
theorem dX1_countPair_2 : decode cX1_countPair 2 = .ok (.iload_n 2, 1) := by decide +kernel
theorem dX1_countPair_3 : decode cX1_countPair 3 = .ok (.invokevirtual 19, 3) := by decide +kernel
theorem dX1_countPair_6 : decode cX1_countPair 6 = .ok (.iconst 1, 1) := by decide +kernel
theorem dX1_countPair_7 : decode cX1_countPair 7 = .ok (.ishl, 1) := by decide +kernel
theorem dX1_countPair_8 : decode cX1_countPair 8 = .ok (.iload_n 3, 1) := by decide +kernel
theorem dX1_countPair_9 : decode cX1_countPair 9 = .ok (.ishr, 1) := by decide +kernel
theorem dX1_countPair_10 : decode cX1_countPair 10 = .ok (.iconst 3, 1) := by decide +kernel
theorem dX1_countPair_11 : decode cX1_countPair 11 = .ok (.iand, 1) := by decide +kernel
theorem dX1_countPair_12 : decode cX1_countPair 12 = .ok (.invokestatic 40, 3) := by decide +kernel
theorem dX1_countPair_15 : decode cX1_countPair 15 = .ok (.ireturn, 1) := by decide +kernel
theorem dX1_spanOf_0 : decode cX1_spanOf 0 = .ok (.iconst 1, 1) := by decide +kernel
theorem dX1_spanOf_1 : decode cX1_spanOf 1 = .ok (.iload_n 1, 1) := by decide +kernel
theorem dX1_spanOf_2 : decode cX1_spanOf 2 = .ok (.iconst 1, 1) := by decide +kernel
theorem dX1_spanOf_3 : decode cX1_spanOf 3 = .ok (.iadd, 1) := by decide +kernel
theorem dX1_spanOf_4 : decode cX1_spanOf 4 = .ok (.ishl, 1) := by decide +kernel
theorem dX1_spanOf_5 : decode cX1_spanOf 5 = .ok (.iconst 1, 1) := by decide +kernel
theorem dX1_spanOf_6 : decode cX1_spanOf 6 = .ok (.iload_n 0, 1) := by decide +kernel
theorem dX1_spanOf_7 : decode cX1_spanOf 7 = .ok (.ishl, 1) := by decide +kernel
theorem dX1_spanOf_8 : decode cX1_spanOf 8 = .ok (.isub, 1) := by decide +kernel
theorem dX1_spanOf_9 : decode cX1_spanOf 9 = .ok (.ireturn, 1) := by decide +kernel
theorem dX1_joined_0 : decode cX1_joined 0 = .ok (.iload_n 2, 1) := by decide +kernel
theorem dX1_joined_1 : decode cX1_joined 1 = .ok (.tableswitch 41 0 2 #[27, 31, 35], 27) := by decide +kernel
theorem dX1_joined_28 : decode cX1_joined 28 = .ok (.iload_n 0, 1) := by decide +kernel
theorem dX1_joined_29 : decode cX1_joined 29 = .ok (.iload_n 1, 1) := by decide +kernel
theorem dX1_joined_30 : decode cX1_joined 30 = .ok (.ior, 1) := by decide +kernel
theorem dX1_joined_31 : decode cX1_joined 31 = .ok (.ireturn, 1) := by decide +kernel
theorem dX1_joined_32 : decode cX1_joined 32 = .ok (.iload_n 0, 1) := by decide +kernel
theorem dX1_joined_33 : decode cX1_joined 33 = .ok (.iload_n 1, 1) := by decide +kernel
theorem dX1_joined_34 : decode cX1_joined 34 = .ok (.iand, 1) := by decide +kernel
theorem dX1_joined_35 : decode cX1_joined 35 = .ok (.ireturn, 1) := by decide +kernel
theorem dX1_joined_36 : decode cX1_joined 36 = .ok (.iload_n 0, 1) := by decide +kernel
theorem dX1_joined_37 : decode cX1_joined 37 = .ok (.iload_n 1, 1) := by decide +kernel
theorem dX1_joined_38 : decode cX1_joined 38 = .ok (.iconst (-1), 1) := by decide +kernel
theorem dX1_joined_39 : decode cX1_joined 39 = .ok (.ixor, 1) := by decide +kernel
theorem dX1_joined_40 : decode cX1_joined 40 = .ok (.iand, 1) := by decide +kernel
theorem dX1_joined_41 : decode cX1_joined 41 = .ok (.ireturn, 1) := by decide +kernel
theorem dX1_joined_42 : decode cX1_joined 42 = .ok (.iload_n 0, 1) := by decide +kernel
theorem dX1_joined_43 : decode cX1_joined 43 = .ok (.iload_n 1, 1) := by decide +kernel
theorem dX1_joined_44 : decode cX1_joined 44 = .ok (.ixor, 1) := by decide +kernel
theorem dX1_joined_45 : decode cX1_joined 45 = .ok (.ireturn, 1) := by decide +kernel
theorem dX1_turnedColumn_0 : decode cX1_turnedColumn 0 = .ok (.iload_n 1, 1) := by decide +kernel
theorem dX1_turnedColumn_1 : decode cX1_turnedColumn 1 = .ok (.ifCond .ne 14, 3) := by decide +kernel
theorem dX1_turnedColumn_4 : decode cX1_turnedColumn 4 = .ok (.aload_n 0, 1) := by decide +kernel
theorem dX1_turnedColumn_5 : decode cX1_turnedColumn 5 = .ok (.iconst 1, 1) := by decide +kernel
theorem dX1_turnedColumn_6 : decode cX1_turnedColumn 6 = .ok (.iload_n 2, 1) := by decide +kernel
theorem dX1_turnedColumn_7 : decode cX1_turnedColumn 7 = .ok (.bipush 11, 2) := by decide +kernel
theorem dX1_turnedColumn_9 : decode cX1_turnedColumn 9 = .ok (.iload_n 3, 1) := by decide +kernel
theorem dX1_turnedColumn_10 : decode cX1_turnedColumn 10 = .ok (.isub, 1) := by decide +kernel
theorem dX1_turnedColumn_11 : decode cX1_turnedColumn 11 = .ok (.invokevirtual 23, 3) := by decide +kernel
theorem dX1_turnedColumn_14 : decode cX1_turnedColumn 14 = .ok (.ireturn, 1) := by decide +kernel
theorem dX1_turnedColumn_15 : decode cX1_turnedColumn 15 = .ok (.iload_n 1, 1) := by decide +kernel
theorem dX1_turnedColumn_16 : decode cX1_turnedColumn 16 = .ok (.iconst 1, 1) := by decide +kernel
theorem dX1_turnedColumn_17 : decode cX1_turnedColumn 17 = .ok (.if_icmp .ne 14, 3) := by decide +kernel
theorem dX1_turnedColumn_20 : decode cX1_turnedColumn 20 = .ok (.aload_n 0, 1) := by decide +kernel
theorem dX1_turnedColumn_21 : decode cX1_turnedColumn 21 = .ok (.iconst 0, 1) := by decide +kernel
theorem dX1_turnedColumn_22 : decode cX1_turnedColumn 22 = .ok (.iload_n 3, 1) := by decide +kernel
theorem dX1_turnedColumn_23 : decode cX1_turnedColumn 23 = .ok (.iload_n 2, 1) := by decide +kernel
theorem dX1_turnedColumn_24 : decode cX1_turnedColumn 24 = .ok (.invokevirtual 23, 3) := by decide +kernel
theorem dX1_turnedColumn_27 : decode cX1_turnedColumn 27 = .ok (.invokestatic 59, 3) := by decide +kernel
theorem dX1_turnedColumn_30 : decode cX1_turnedColumn 30 = .ok (.ireturn, 1) := by decide +kernel
theorem dX1_turnedColumn_31 : decode cX1_turnedColumn 31 = .ok (.aload_n 0, 1) := by decide +kernel
theorem dX1_turnedColumn_32 : decode cX1_turnedColumn 32 = .ok (.iload_n 3, 1) := by decide +kernel
theorem dX1_turnedColumn_33 : decode cX1_turnedColumn 33 = .ok (.bipush 11, 2) := by decide +kernel
theorem dX1_turnedColumn_35 : decode cX1_turnedColumn 35 = .ok (.iload_n 2, 1) := by decide +kernel
theorem dX1_turnedColumn_36 : decode cX1_turnedColumn 36 = .ok (.isub, 1) := by decide +kernel
theorem dX1_turnedColumn_37 : decode cX1_turnedColumn 37 = .ok (.invokevirtual 19, 3) := by decide +kernel
theorem dX1_turnedColumn_40 : decode cX1_turnedColumn 40 = .ok (.ireturn, 1) := by decide +kernel
theorem dX1_mirroredColumn_0 : decode cX1_mirroredColumn 0 = .ok (.iload_n 1, 1) := by decide +kernel
theorem dX1_mirroredColumn_1 : decode cX1_mirroredColumn 1 = .ok (.ifCond .ne 13, 3) := by decide +kernel
theorem dX1_mirroredColumn_4 : decode cX1_mirroredColumn 4 = .ok (.aload_n 0, 1) := by decide +kernel
theorem dX1_mirroredColumn_5 : decode cX1_mirroredColumn 5 = .ok (.bipush 11, 2) := by decide +kernel
theorem dX1_mirroredColumn_7 : decode cX1_mirroredColumn 7 = .ok (.iload_n 2, 1) := by decide +kernel
theorem dX1_mirroredColumn_8 : decode cX1_mirroredColumn 8 = .ok (.isub, 1) := by decide +kernel
theorem dX1_mirroredColumn_9 : decode cX1_mirroredColumn 9 = .ok (.iload_n 3, 1) := by decide +kernel
theorem dX1_mirroredColumn_10 : decode cX1_mirroredColumn 10 = .ok (.invokevirtual 19, 3) := by decide +kernel
theorem dX1_mirroredColumn_13 : decode cX1_mirroredColumn 13 = .ok (.ireturn, 1) := by decide +kernel
theorem dX1_mirroredColumn_14 : decode cX1_mirroredColumn 14 = .ok (.iload_n 1, 1) := by decide +kernel
theorem dX1_mirroredColumn_15 : decode cX1_mirroredColumn 15 = .ok (.iconst 1, 1) := by decide +kernel
theorem dX1_mirroredColumn_16 : decode cX1_mirroredColumn 16 = .ok (.if_icmp .ne 13, 3) := by decide +kernel
theorem dX1_mirroredColumn_19 : decode cX1_mirroredColumn 19 = .ok (.aload_n 0, 1) := by decide +kernel
theorem dX1_mirroredColumn_20 : decode cX1_mirroredColumn 20 = .ok (.iload_n 2, 1) := by decide +kernel
theorem dX1_mirroredColumn_21 : decode cX1_mirroredColumn 21 = .ok (.bipush 11, 2) := by decide +kernel
theorem dX1_mirroredColumn_23 : decode cX1_mirroredColumn 23 = .ok (.iload_n 3, 1) := by decide +kernel
theorem dX1_mirroredColumn_24 : decode cX1_mirroredColumn 24 = .ok (.isub, 1) := by decide +kernel
theorem dX1_mirroredColumn_25 : decode cX1_mirroredColumn 25 = .ok (.invokevirtual 19, 3) := by decide +kernel
theorem dX1_mirroredColumn_28 : decode cX1_mirroredColumn 28 = .ok (.ireturn, 1) := by decide +kernel
theorem dX1_mirroredColumn_29 : decode cX1_mirroredColumn 29 = .ok (.aload_n 0, 1) := by decide +kernel
theorem dX1_mirroredColumn_30 : decode cX1_mirroredColumn 30 = .ok (.iload_n 2, 1) := by decide +kernel
theorem dX1_mirroredColumn_31 : decode cX1_mirroredColumn 31 = .ok (.iload_n 3, 1) := by decide +kernel
theorem dX1_mirroredColumn_32 : decode cX1_mirroredColumn 32 = .ok (.invokevirtual 19, 3) := by decide +kernel
theorem dX1_mirroredColumn_35 : decode cX1_mirroredColumn 35 = .ok (.invokestatic 59, 3) := by decide +kernel
theorem dX1_mirroredColumn_38 : decode cX1_mirroredColumn 38 = .ok (.ireturn, 1) := by decide +kernel
theorem dX1_reversed_0 : decode cX1_reversed 0 = .ok (.iload_n 0, 1) := by decide +kernel
theorem dX1_reversed_1 : decode cX1_reversed 1 = .ok (.invokestatic 62, 3) := by decide +kernel
theorem dX1_reversed_4 : decode cX1_reversed 4 = .ok (.bipush 20, 2) := by decide +kernel
theorem dX1_reversed_6 : decode cX1_reversed 6 = .ok (.iushr, 1) := by decide +kernel
theorem dX1_reversed_7 : decode cX1_reversed 7 = .ok (.ireturn, 1) := by decide +kernel
theorem dX2_init_0 : decode cX2_init 0 = .ok (.aload_n 0, 1) := by decide +kernel
theorem dX2_init_1 : decode cX2_init 1 = .ok (.invokespecial 3, 3) := by decide +kernel
theorem dX2_init_4 : decode cX2_init 4 = .ok (.aload_n 0, 1) := by decide +kernel
theorem dX2_init_5 : decode cX2_init 5 = .ok (.bipush 12, 2) := by decide +kernel
theorem dX2_init_7 : decode cX2_init 7 = .ok (.newarray .int, 2) := by decide +kernel
theorem dX2_init_9 : decode cX2_init 9 = .ok (.putfield 9, 3) := by decide +kernel
theorem dX2_init_12 : decode cX2_init 12 = .ok (.aload_n 0, 1) := by decide +kernel
theorem dX2_init_13 : decode cX2_init 13 = .ok (.bipush 12, 2) := by decide +kernel
theorem dX2_init_15 : decode cX2_init 15 = .ok (.anewarray 15, 3) := by decide +kernel
theorem dX2_init_18 : decode cX2_init 18 = .ok (.putfield 17, 3) := by decide +kernel
theorem dX2_init_21 : decode cX2_init 21 = .ok (.iconst 0, 1) := by decide +kernel
theorem dX2_init_22 : decode cX2_init 22 = .ok (.istore_n 1, 1) := by decide +kernel
theorem dX2_init_23 : decode cX2_init 23 = .ok (.iload_n 1, 1) := by decide +kernel
theorem dX2_init_24 : decode cX2_init 24 = .ok (.bipush 12, 2) := by decide +kernel
theorem dX2_init_26 : decode cX2_init 26 = .ok (.if_icmp .ge 22, 3) := by decide +kernel
theorem dX2_init_29 : decode cX2_init 29 = .ok (.aload_n 0, 1) := by decide +kernel
theorem dX2_init_30 : decode cX2_init 30 = .ok (.getfield 17, 3) := by decide +kernel
theorem dX2_init_33 : decode cX2_init 33 = .ok (.iload_n 1, 1) := by decide +kernel
theorem dX2_init_34 : decode cX2_init 34 = .ok (.new 15, 3) := by decide +kernel
theorem dX2_init_37 : decode cX2_init 37 = .ok (.dup, 1) := by decide +kernel
theorem dX2_init_38 : decode cX2_init 38 = .ok (.invokespecial 21, 3) := by decide +kernel
theorem dX2_init_41 : decode cX2_init 41 = .ok (.aastore, 1) := by decide +kernel
theorem dX2_init_42 : decode cX2_init 42 = .ok (.iinc 1 1, 3) := by decide +kernel
theorem dX2_init_45 : decode cX2_init 45 = .ok (.goto (-22), 3) := by decide +kernel
theorem dX2_init_48 : decode cX2_init 48 = .ok (.return_, 1) := by decide +kernel
theorem dX2_keep_0 : decode cX2_keep 0 = .ok (.aload_n 0, 1) := by decide +kernel
theorem dX2_keep_1 : decode cX2_keep 1 = .ok (.getfield 22, 3) := by decide +kernel
theorem dX2_keep_4 : decode cX2_keep 4 = .ok (.bipush 12, 2) := by decide +kernel
theorem dX2_keep_6 : decode cX2_keep 6 = .ok (.if_icmp .ne 26, 3) := by decide +kernel
theorem dX2_keep_9 : decode cX2_keep 9 = .ok (.aload_n 0, 1) := by decide +kernel
theorem dX2_keep_10 : decode cX2_keep 10 = .ok (.aload_n 0, 1) := by decide +kernel
theorem dX2_keep_11 : decode cX2_keep 11 = .ok (.getfield 26, 3) := by decide +kernel
theorem dX2_keep_14 : decode cX2_keep 14 = .ok (.iconst 1, 1) := by decide +kernel
theorem dX2_keep_15 : decode cX2_keep 15 = .ok (.iadd, 1) := by decide +kernel
theorem dX2_keep_16 : decode cX2_keep 16 = .ok (.bipush 12, 2) := by decide +kernel
theorem dX2_keep_18 : decode cX2_keep 18 = .ok (.irem, 1) := by decide +kernel
theorem dX2_keep_19 : decode cX2_keep 19 = .ok (.putfield 26, 3) := by decide +kernel
theorem dX2_keep_22 : decode cX2_keep 22 = .ok (.aload_n 0, 1) := by decide +kernel
theorem dX2_keep_23 : decode cX2_keep 23 = .ok (.dup, 1) := by decide +kernel
theorem dX2_keep_24 : decode cX2_keep 24 = .ok (.getfield 22, 3) := by decide +kernel
theorem dX2_keep_27 : decode cX2_keep 27 = .ok (.iconst 1, 1) := by decide +kernel
theorem dX2_keep_28 : decode cX2_keep 28 = .ok (.isub, 1) := by decide +kernel
theorem dX2_keep_29 : decode cX2_keep 29 = .ok (.putfield 22, 3) := by decide +kernel
theorem dX2_keep_32 : decode cX2_keep 32 = .ok (.aload_n 0, 1) := by decide +kernel
theorem dX2_keep_33 : decode cX2_keep 33 = .ok (.getfield 26, 3) := by decide +kernel
theorem dX2_keep_36 : decode cX2_keep 36 = .ok (.aload_n 0, 1) := by decide +kernel
theorem dX2_keep_37 : decode cX2_keep 37 = .ok (.getfield 22, 3) := by decide +kernel
theorem dX2_keep_40 : decode cX2_keep 40 = .ok (.iadd, 1) := by decide +kernel
theorem dX2_keep_41 : decode cX2_keep 41 = .ok (.bipush 12, 2) := by decide +kernel
theorem dX2_keep_43 : decode cX2_keep 43 = .ok (.irem, 1) := by decide +kernel
theorem dX2_keep_44 : decode cX2_keep 44 = .ok (.istore_n 3, 1) := by decide +kernel
theorem dX2_keep_45 : decode cX2_keep 45 = .ok (.aload_n 0, 1) := by decide +kernel
theorem dX2_keep_46 : decode cX2_keep 46 = .ok (.getfield 17, 3) := by decide +kernel
theorem dX2_keep_49 : decode cX2_keep 49 = .ok (.iload_n 3, 1) := by decide +kernel
theorem dX2_keep_50 : decode cX2_keep 50 = .ok (.aaload, 1) := by decide +kernel
theorem dX2_keep_51 : decode cX2_keep 51 = .ok (.astore 4, 2) := by decide +kernel
theorem dX2_keep_53 : decode cX2_keep 53 = .ok (.aload_n 0, 1) := by decide +kernel
theorem dX2_keep_54 : decode cX2_keep 54 = .ok (.getfield 9, 3) := by decide +kernel
theorem dX2_keep_57 : decode cX2_keep 57 = .ok (.iload_n 3, 1) := by decide +kernel
theorem dX2_keep_58 : decode cX2_keep 58 = .ok (.iload_n 1, 1) := by decide +kernel
theorem dX2_keep_59 : decode cX2_keep 59 = .ok (.iastore, 1) := by decide +kernel
theorem dX2_keep_60 : decode cX2_keep 60 = .ok (.aload_n 0, 1) := by decide +kernel
theorem dX2_keep_61 : decode cX2_keep 61 = .ok (.getfield 17, 3) := by decide +kernel
theorem dX2_keep_64 : decode cX2_keep 64 = .ok (.iload_n 3, 1) := by decide +kernel
theorem dX2_keep_65 : decode cX2_keep 65 = .ok (.aload_n 2, 1) := by decide +kernel
theorem dX2_keep_66 : decode cX2_keep 66 = .ok (.aastore, 1) := by decide +kernel
theorem dX2_keep_67 : decode cX2_keep 67 = .ok (.aload_n 0, 1) := by decide +kernel
theorem dX2_keep_68 : decode cX2_keep 68 = .ok (.dup, 1) := by decide +kernel
theorem dX2_keep_69 : decode cX2_keep 69 = .ok (.getfield 22, 3) := by decide +kernel
theorem dX2_keep_72 : decode cX2_keep 72 = .ok (.iconst 1, 1) := by decide +kernel
theorem dX2_keep_73 : decode cX2_keep 73 = .ok (.iadd, 1) := by decide +kernel
theorem dX2_keep_74 : decode cX2_keep 74 = .ok (.putfield 22, 3) := by decide +kernel
theorem dX2_keep_77 : decode cX2_keep 77 = .ok (.aload_n 0, 1) := by decide +kernel
theorem dX2_keep_78 : decode cX2_keep 78 = .ok (.iconst 0, 1) := by decide +kernel
theorem dX2_keep_79 : decode cX2_keep 79 = .ok (.putfield 29, 3) := by decide +kernel
theorem dX2_keep_82 : decode cX2_keep 82 = .ok (.aload 4, 2) := by decide +kernel
theorem dX2_keep_84 : decode cX2_keep 84 = .ok (.areturn, 1) := by decide +kernel
theorem dX2_takeBack_0 : decode cX2_takeBack 0 = .ok (.aload_n 0, 1) := by decide +kernel
theorem dX2_takeBack_1 : decode cX2_takeBack 1 = .ok (.getfield 22, 3) := by decide +kernel
theorem dX2_takeBack_4 : decode cX2_takeBack 4 = .ok (.ifCond .ne 6, 3) := by decide +kernel
theorem dX2_takeBack_7 : decode cX2_takeBack 7 = .ok (.bipush (-2), 2) := by decide +kernel
theorem dX2_takeBack_9 : decode cX2_takeBack 9 = .ok (.ireturn, 1) := by decide +kernel
theorem dX2_takeBack_10 : decode cX2_takeBack 10 = .ok (.aload_n 0, 1) := by decide +kernel
theorem dX2_takeBack_11 : decode cX2_takeBack 11 = .ok (.dup, 1) := by decide +kernel
theorem dX2_takeBack_12 : decode cX2_takeBack 12 = .ok (.getfield 22, 3) := by decide +kernel
theorem dX2_takeBack_15 : decode cX2_takeBack 15 = .ok (.iconst 1, 1) := by decide +kernel
theorem dX2_takeBack_16 : decode cX2_takeBack 16 = .ok (.isub, 1) := by decide +kernel
theorem dX2_takeBack_17 : decode cX2_takeBack 17 = .ok (.putfield 22, 3) := by decide +kernel
theorem dX2_takeBack_20 : decode cX2_takeBack 20 = .ok (.aload_n 0, 1) := by decide +kernel
theorem dX2_takeBack_21 : decode cX2_takeBack 21 = .ok (.dup, 1) := by decide +kernel
theorem dX2_takeBack_22 : decode cX2_takeBack 22 = .ok (.getfield 29, 3) := by decide +kernel
theorem dX2_takeBack_25 : decode cX2_takeBack 25 = .ok (.iconst 1, 1) := by decide +kernel
theorem dX2_takeBack_26 : decode cX2_takeBack 26 = .ok (.iadd, 1) := by decide +kernel
theorem dX2_takeBack_27 : decode cX2_takeBack 27 = .ok (.putfield 29, 3) := by decide +kernel
theorem dX2_takeBack_30 : decode cX2_takeBack 30 = .ok (.aload_n 0, 1) := by decide +kernel
theorem dX2_takeBack_31 : decode cX2_takeBack 31 = .ok (.aload_n 1, 1) := by decide +kernel
theorem dX2_takeBack_32 : decode cX2_takeBack 32 = .ok (.aload_n 0, 1) := by decide +kernel
theorem dX2_takeBack_33 : decode cX2_takeBack 33 = .ok (.getfield 26, 3) := by decide +kernel
theorem dX2_takeBack_36 : decode cX2_takeBack 36 = .ok (.aload_n 0, 1) := by decide +kernel
theorem dX2_takeBack_37 : decode cX2_takeBack 37 = .ok (.getfield 22, 3) := by decide +kernel
theorem dX2_takeBack_40 : decode cX2_takeBack 40 = .ok (.iadd, 1) := by decide +kernel
theorem dX2_takeBack_41 : decode cX2_takeBack 41 = .ok (.bipush 12, 2) := by decide +kernel
theorem dX2_takeBack_43 : decode cX2_takeBack 43 = .ok (.irem, 1) := by decide +kernel
theorem dX2_takeBack_44 : decode cX2_takeBack 44 = .ok (.invokevirtual 32, 3) := by decide +kernel
theorem dX2_takeBack_47 : decode cX2_takeBack 47 = .ok (.ireturn, 1) := by decide +kernel
theorem dX2_doAgain_0 : decode cX2_doAgain 0 = .ok (.aload_n 0, 1) := by decide +kernel
theorem dX2_doAgain_1 : decode cX2_doAgain 1 = .ok (.getfield 29, 3) := by decide +kernel
theorem dX2_doAgain_4 : decode cX2_doAgain 4 = .ok (.ifCond .ne 6, 3) := by decide +kernel
theorem dX2_doAgain_7 : decode cX2_doAgain 7 = .ok (.bipush (-2), 2) := by decide +kernel
theorem dX2_doAgain_9 : decode cX2_doAgain 9 = .ok (.ireturn, 1) := by decide +kernel
theorem dX2_doAgain_10 : decode cX2_doAgain 10 = .ok (.aload_n 0, 1) := by decide +kernel
theorem dX2_doAgain_11 : decode cX2_doAgain 11 = .ok (.getfield 26, 3) := by decide +kernel
theorem dX2_doAgain_14 : decode cX2_doAgain 14 = .ok (.aload_n 0, 1) := by decide +kernel
theorem dX2_doAgain_15 : decode cX2_doAgain 15 = .ok (.getfield 22, 3) := by decide +kernel
theorem dX2_doAgain_18 : decode cX2_doAgain 18 = .ok (.iadd, 1) := by decide +kernel
theorem dX2_doAgain_19 : decode cX2_doAgain 19 = .ok (.bipush 12, 2) := by decide +kernel
theorem dX2_doAgain_21 : decode cX2_doAgain 21 = .ok (.irem, 1) := by decide +kernel
theorem dX2_doAgain_22 : decode cX2_doAgain 22 = .ok (.istore_n 2, 1) := by decide +kernel
theorem dX2_doAgain_23 : decode cX2_doAgain 23 = .ok (.aload_n 0, 1) := by decide +kernel
theorem dX2_doAgain_24 : decode cX2_doAgain 24 = .ok (.dup, 1) := by decide +kernel
theorem dX2_doAgain_25 : decode cX2_doAgain 25 = .ok (.getfield 22, 3) := by decide +kernel
theorem dX2_doAgain_28 : decode cX2_doAgain 28 = .ok (.iconst 1, 1) := by decide +kernel
theorem dX2_doAgain_29 : decode cX2_doAgain 29 = .ok (.iadd, 1) := by decide +kernel
theorem dX2_doAgain_30 : decode cX2_doAgain 30 = .ok (.putfield 22, 3) := by decide +kernel
theorem dX2_doAgain_33 : decode cX2_doAgain 33 = .ok (.aload_n 0, 1) := by decide +kernel
theorem dX2_doAgain_34 : decode cX2_doAgain 34 = .ok (.dup, 1) := by decide +kernel
theorem dX2_doAgain_35 : decode cX2_doAgain 35 = .ok (.getfield 29, 3) := by decide +kernel
theorem dX2_doAgain_38 : decode cX2_doAgain 38 = .ok (.iconst 1, 1) := by decide +kernel
theorem dX2_doAgain_39 : decode cX2_doAgain 39 = .ok (.isub, 1) := by decide +kernel
theorem dX2_doAgain_40 : decode cX2_doAgain 40 = .ok (.putfield 29, 3) := by decide +kernel
theorem dX2_doAgain_43 : decode cX2_doAgain 43 = .ok (.aload_n 0, 1) := by decide +kernel
theorem dX2_doAgain_44 : decode cX2_doAgain 44 = .ok (.aload_n 1, 1) := by decide +kernel
theorem dX2_doAgain_45 : decode cX2_doAgain 45 = .ok (.iload_n 2, 1) := by decide +kernel
theorem dX2_doAgain_46 : decode cX2_doAgain 46 = .ok (.invokevirtual 32, 3) := by decide +kernel
theorem dX2_doAgain_49 : decode cX2_doAgain 49 = .ok (.ireturn, 1) := by decide +kernel
theorem dX2_exchange_0 : decode cX2_exchange 0 = .ok (.aload_n 0, 1) := by decide +kernel
theorem dX2_exchange_1 : decode cX2_exchange 1 = .ok (.getfield 9, 3) := by decide +kernel
theorem dX2_exchange_4 : decode cX2_exchange 4 = .ok (.iload_n 2, 1) := by decide +kernel
theorem dX2_exchange_5 : decode cX2_exchange 5 = .ok (.iaload, 1) := by decide +kernel
theorem dX2_exchange_6 : decode cX2_exchange 6 = .ok (.istore_n 3, 1) := by decide +kernel
theorem dX2_exchange_7 : decode cX2_exchange 7 = .ok (.aload_n 0, 1) := by decide +kernel
theorem dX2_exchange_8 : decode cX2_exchange 8 = .ok (.getfield 17, 3) := by decide +kernel
theorem dX2_exchange_11 : decode cX2_exchange 11 = .ok (.iload_n 2, 1) := by decide +kernel
theorem dX2_exchange_12 : decode cX2_exchange 12 = .ok (.aaload, 1) := by decide +kernel
theorem dX2_exchange_13 : decode cX2_exchange 13 = .ok (.astore 4, 2) := by decide +kernel
theorem dX2_exchange_15 : decode cX2_exchange 15 = .ok (.aload_n 0, 1) := by decide +kernel
theorem dX2_exchange_16 : decode cX2_exchange 16 = .ok (.getfield 17, 3) := by decide +kernel
theorem dX2_exchange_19 : decode cX2_exchange 19 = .ok (.iload_n 2, 1) := by decide +kernel
theorem dX2_exchange_20 : decode cX2_exchange 20 = .ok (.aload_n 1, 1) := by decide +kernel
theorem dX2_exchange_21 : decode cX2_exchange 21 = .ok (.iload_n 3, 1) := by decide +kernel
theorem dX2_exchange_22 : decode cX2_exchange 22 = .ok (.aaload, 1) := by decide +kernel
theorem dX2_exchange_23 : decode cX2_exchange 23 = .ok (.aastore, 1) := by decide +kernel
theorem dX2_exchange_24 : decode cX2_exchange 24 = .ok (.aload_n 1, 1) := by decide +kernel
theorem dX2_exchange_25 : decode cX2_exchange 25 = .ok (.iload_n 3, 1) := by decide +kernel
theorem dX2_exchange_26 : decode cX2_exchange 26 = .ok (.aload 4, 2) := by decide +kernel
theorem dX2_exchange_28 : decode cX2_exchange 28 = .ok (.aastore, 1) := by decide +kernel
theorem dX2_exchange_29 : decode cX2_exchange 29 = .ok (.iload_n 3, 1) := by decide +kernel
theorem dX2_exchange_30 : decode cX2_exchange 30 = .ok (.ireturn, 1) := by decide +kernel
theorem dX3_init_0 : decode cX3_init 0 = .ok (.aload_n 0, 1) := by decide +kernel
theorem dX3_init_1 : decode cX3_init 1 = .ok (.invokespecial 3, 3) := by decide +kernel
theorem dX3_init_4 : decode cX3_init 4 = .ok (.aload_n 0, 1) := by decide +kernel
theorem dX3_init_5 : decode cX3_init 5 = .ok (.sipush 144, 3) := by decide +kernel
theorem dX3_init_8 : decode cX3_init 8 = .ok (.newarray .int, 2) := by decide +kernel
theorem dX3_init_10 : decode cX3_init 10 = .ok (.putfield 9, 3) := by decide +kernel
theorem dX3_init_13 : decode cX3_init 13 = .ok (.aload_n 0, 1) := by decide +kernel
theorem dX3_init_14 : decode cX3_init 14 = .ok (.sipush 1728, 3) := by decide +kernel
theorem dX3_init_17 : decode cX3_init 17 = .ok (.newarray .int, 2) := by decide +kernel
theorem dX3_init_19 : decode cX3_init 19 = .ok (.putfield 15, 3) := by decide +kernel
theorem dX3_init_22 : decode cX3_init 22 = .ok (.return_, 1) := by decide +kernel
theorem dX3_countPieces_0 : decode cX3_countPieces 0 = .ok (.iconst 0, 1) := by decide +kernel
theorem dX3_countPieces_1 : decode cX3_countPieces 1 = .ok (.istore_n 2, 1) := by decide +kernel
theorem dX3_countPieces_2 : decode cX3_countPieces 2 = .ok (.iload_n 2, 1) := by decide +kernel
theorem dX3_countPieces_3 : decode cX3_countPieces 3 = .ok (.sipush 144, 3) := by decide +kernel
theorem dX3_countPieces_6 : decode cX3_countPieces 6 = .ok (.if_icmp .ge 21, 3) := by decide +kernel
theorem dX3_countPieces_9 : decode cX3_countPieces 9 = .ok (.aload_n 0, 1) := by decide +kernel
theorem dX3_countPieces_10 : decode cX3_countPieces 10 = .ok (.getfield 9, 3) := by decide +kernel
theorem dX3_countPieces_13 : decode cX3_countPieces 13 = .ok (.iload_n 2, 1) := by decide +kernel
theorem dX3_countPieces_14 : decode cX3_countPieces 14 = .ok (.aload_n 1, 1) := by decide +kernel
theorem dX3_countPieces_15 : decode cX3_countPieces 15 = .ok (.getfield 18, 3) := by decide +kernel
theorem dX3_countPieces_18 : decode cX3_countPieces 18 = .ok (.iload_n 2, 1) := by decide +kernel
theorem dX3_countPieces_19 : decode cX3_countPieces 19 = .ok (.iaload, 1) := by decide +kernel
theorem dX3_countPieces_20 : decode cX3_countPieces 20 = .ok (.iastore, 1) := by decide +kernel
theorem dX3_countPieces_21 : decode cX3_countPieces 21 = .ok (.iinc 2 1, 3) := by decide +kernel
theorem dX3_countPieces_24 : decode cX3_countPieces 24 = .ok (.goto (-22), 3) := by decide +kernel
theorem dX3_countPieces_27 : decode cX3_countPieces 27 = .ok (.aload_n 0, 1) := by decide +kernel
theorem dX3_countPieces_28 : decode cX3_countPieces 28 = .ok (.invokevirtual 23, 3) := by decide +kernel
theorem dX3_countPieces_31 : decode cX3_countPieces 31 = .ok (.ireturn, 1) := by decide +kernel
theorem dX3_countHollows_0 : decode cX3_countHollows 0 = .ok (.iconst 0, 1) := by decide +kernel
theorem dX3_countHollows_1 : decode cX3_countHollows 1 = .ok (.istore_n 2, 1) := by decide +kernel
theorem dX3_countHollows_2 : decode cX3_countHollows 2 = .ok (.iload_n 2, 1) := by decide +kernel
theorem dX3_countHollows_3 : decode cX3_countHollows 3 = .ok (.sipush 144, 3) := by decide +kernel
theorem dX3_countHollows_6 : decode cX3_countHollows 6 = .ok (.if_icmp .ge 27, 3) := by decide +kernel
theorem dX3_countHollows_9 : decode cX3_countHollows 9 = .ok (.aload_n 0, 1) := by decide +kernel
theorem dX3_countHollows_10 : decode cX3_countHollows 10 = .ok (.getfield 9, 3) := by decide +kernel
theorem dX3_countHollows_13 : decode cX3_countHollows 13 = .ok (.iload_n 2, 1) := by decide +kernel
theorem dX3_countHollows_14 : decode cX3_countHollows 14 = .ok (.sipush 4095, 3) := by decide +kernel
theorem dX3_countHollows_17 : decode cX3_countHollows 17 = .ok (.aload_n 1, 1) := by decide +kernel
theorem dX3_countHollows_18 : decode cX3_countHollows 18 = .ok (.getfield 18, 3) := by decide +kernel
theorem dX3_countHollows_21 : decode cX3_countHollows 21 = .ok (.iload_n 2, 1) := by decide +kernel
theorem dX3_countHollows_22 : decode cX3_countHollows 22 = .ok (.iaload, 1) := by decide +kernel
theorem dX3_countHollows_23 : decode cX3_countHollows 23 = .ok (.iconst (-1), 1) := by decide +kernel
theorem dX3_countHollows_24 : decode cX3_countHollows 24 = .ok (.ixor, 1) := by decide +kernel
theorem dX3_countHollows_25 : decode cX3_countHollows 25 = .ok (.iand, 1) := by decide +kernel
theorem dX3_countHollows_26 : decode cX3_countHollows 26 = .ok (.iastore, 1) := by decide +kernel
theorem dX3_countHollows_27 : decode cX3_countHollows 27 = .ok (.iinc 2 1, 3) := by decide +kernel
theorem dX3_countHollows_30 : decode cX3_countHollows 30 = .ok (.goto (-28), 3) := by decide +kernel
theorem dX3_countHollows_33 : decode cX3_countHollows 33 = .ok (.aload_n 0, 1) := by decide +kernel
theorem dX3_countHollows_34 : decode cX3_countHollows 34 = .ok (.invokevirtual 27, 3) := by decide +kernel
theorem dX3_countHollows_37 : decode cX3_countHollows 37 = .ok (.aload_n 0, 1) := by decide +kernel
theorem dX3_countHollows_38 : decode cX3_countHollows 38 = .ok (.invokevirtual 23, 3) := by decide +kernel
theorem dX3_countHollows_41 : decode cX3_countHollows 41 = .ok (.ireturn, 1) := by decide +kernel
theorem dX3_dropFromBorder_0 : decode cX3_dropFromBorder 0 = .ok (.aload_n 0, 1) := by decide +kernel
theorem dX3_dropFromBorder_1 : decode cX3_dropFromBorder 1 = .ok (.iconst 0, 1) := by decide +kernel
theorem dX3_dropFromBorder_2 : decode cX3_dropFromBorder 2 = .ok (.putfield 30, 3) := by decide +kernel
theorem dX3_dropFromBorder_5 : decode cX3_dropFromBorder 5 = .ok (.iconst 0, 1) := by decide +kernel
theorem dX3_dropFromBorder_6 : decode cX3_dropFromBorder 6 = .ok (.istore_n 1, 1) := by decide +kernel
theorem dX3_dropFromBorder_7 : decode cX3_dropFromBorder 7 = .ok (.iload_n 1, 1) := by decide +kernel
theorem dX3_dropFromBorder_8 : decode cX3_dropFromBorder 8 = .ok (.bipush 12, 2) := by decide +kernel
theorem dX3_dropFromBorder_10 : decode cX3_dropFromBorder 10 = .ok (.if_icmp .ge 68, 3) := by decide +kernel
theorem dX3_dropFromBorder_13 : decode cX3_dropFromBorder 13 = .ok (.iconst 0, 1) := by decide +kernel
theorem dX3_dropFromBorder_14 : decode cX3_dropFromBorder 14 = .ok (.istore_n 2, 1) := by decide +kernel
theorem dX3_dropFromBorder_15 : decode cX3_dropFromBorder 15 = .ok (.iload_n 2, 1) := by decide +kernel
theorem dX3_dropFromBorder_16 : decode cX3_dropFromBorder 16 = .ok (.bipush 12, 2) := by decide +kernel
theorem dX3_dropFromBorder_18 : decode cX3_dropFromBorder 18 = .ok (.if_icmp .ge 54, 3) := by decide +kernel
theorem dX3_dropFromBorder_21 : decode cX3_dropFromBorder 21 = .ok (.iload_n 1, 1) := by decide +kernel
theorem dX3_dropFromBorder_22 : decode cX3_dropFromBorder 22 = .ok (.ifCond .eq 19, 3) := by decide +kernel
theorem dX3_dropFromBorder_25 : decode cX3_dropFromBorder 25 = .ok (.iload_n 1, 1) := by decide +kernel
theorem dX3_dropFromBorder_26 : decode cX3_dropFromBorder 26 = .ok (.bipush 11, 2) := by decide +kernel
theorem dX3_dropFromBorder_28 : decode cX3_dropFromBorder 28 = .ok (.if_icmp .eq 13, 3) := by decide +kernel
theorem dX3_dropFromBorder_31 : decode cX3_dropFromBorder 31 = .ok (.iload_n 2, 1) := by decide +kernel
theorem dX3_dropFromBorder_32 : decode cX3_dropFromBorder 32 = .ok (.ifCond .eq 9, 3) := by decide +kernel
theorem dX3_dropFromBorder_35 : decode cX3_dropFromBorder 35 = .ok (.iload_n 2, 1) := by decide +kernel
theorem dX3_dropFromBorder_36 : decode cX3_dropFromBorder 36 = .ok (.bipush 11, 2) := by decide +kernel
theorem dX3_dropFromBorder_38 : decode cX3_dropFromBorder 38 = .ok (.if_icmp .ne 7, 3) := by decide +kernel
theorem dX3_dropFromBorder_41 : decode cX3_dropFromBorder 41 = .ok (.iconst 1, 1) := by decide +kernel
theorem dX3_dropFromBorder_42 : decode cX3_dropFromBorder 42 = .ok (.goto 4, 3) := by decide +kernel
theorem dX3_dropFromBorder_45 : decode cX3_dropFromBorder 45 = .ok (.iconst 0, 1) := by decide +kernel
theorem dX3_dropFromBorder_46 : decode cX3_dropFromBorder 46 = .ok (.istore_n 3, 1) := by decide +kernel
theorem dX3_dropFromBorder_47 : decode cX3_dropFromBorder 47 = .ok (.aload_n 0, 1) := by decide +kernel
theorem dX3_dropFromBorder_48 : decode cX3_dropFromBorder 48 = .ok (.iload_n 1, 1) := by decide +kernel
theorem dX3_dropFromBorder_49 : decode cX3_dropFromBorder 49 = .ok (.iload_n 2, 1) := by decide +kernel
theorem dX3_dropFromBorder_50 : decode cX3_dropFromBorder 50 = .ok (.iload_n 3, 1) := by decide +kernel
theorem dX3_dropFromBorder_51 : decode cX3_dropFromBorder 51 = .ok (.ifCond .eq 9, 3) := by decide +kernel
theorem dX3_dropFromBorder_54 : decode cX3_dropFromBorder 54 = .ok (.sipush 4095, 3) := by decide +kernel
theorem dX3_dropFromBorder_57 : decode cX3_dropFromBorder 57 = .ok (.goto 6, 3) := by decide +kernel
theorem dX3_dropFromBorder_60 : decode cX3_dropFromBorder 60 = .ok (.sipush 2049, 3) := by decide +kernel
theorem dX3_dropFromBorder_63 : decode cX3_dropFromBorder 63 = .ok (.invokevirtual 34, 3) := by decide +kernel
theorem dX3_dropFromBorder_66 : decode cX3_dropFromBorder 66 = .ok (.iinc 2 1, 3) := by decide +kernel
theorem dX3_dropFromBorder_69 : decode cX3_dropFromBorder 69 = .ok (.goto (-54), 3) := by decide +kernel
theorem dX3_dropFromBorder_72 : decode cX3_dropFromBorder 72 = .ok (.iinc 1 1, 3) := by decide +kernel
theorem dX3_dropFromBorder_75 : decode cX3_dropFromBorder 75 = .ok (.goto (-68), 3) := by decide +kernel
theorem dX3_dropFromBorder_78 : decode cX3_dropFromBorder 78 = .ok (.aload_n 0, 1) := by decide +kernel
theorem dX3_dropFromBorder_79 : decode cX3_dropFromBorder 79 = .ok (.invokevirtual 38, 3) := by decide +kernel
theorem dX3_dropFromBorder_82 : decode cX3_dropFromBorder 82 = .ok (.return_, 1) := by decide +kernel
theorem dX3_countLeft_0 : decode cX3_countLeft 0 = .ok (.iconst 0, 1) := by decide +kernel
theorem dX3_countLeft_1 : decode cX3_countLeft 1 = .ok (.istore_n 1, 1) := by decide +kernel
theorem dX3_countLeft_2 : decode cX3_countLeft 2 = .ok (.iconst 0, 1) := by decide +kernel
theorem dX3_countLeft_3 : decode cX3_countLeft 3 = .ok (.istore_n 2, 1) := by decide +kernel
theorem dX3_countLeft_4 : decode cX3_countLeft 4 = .ok (.iload_n 2, 1) := by decide +kernel
theorem dX3_countLeft_5 : decode cX3_countLeft 5 = .ok (.bipush 12, 2) := by decide +kernel
theorem dX3_countLeft_7 : decode cX3_countLeft 7 = .ok (.if_icmp .ge 32, 3) := by decide +kernel
theorem dX3_countLeft_10 : decode cX3_countLeft 10 = .ok (.iconst 0, 1) := by decide +kernel
theorem dX3_countLeft_11 : decode cX3_countLeft 11 = .ok (.istore_n 3, 1) := by decide +kernel
theorem dX3_countLeft_12 : decode cX3_countLeft 12 = .ok (.iload_n 3, 1) := by decide +kernel
theorem dX3_countLeft_13 : decode cX3_countLeft 13 = .ok (.bipush 12, 2) := by decide +kernel
theorem dX3_countLeft_15 : decode cX3_countLeft 15 = .ok (.if_icmp .ge 18, 3) := by decide +kernel
theorem dX3_countLeft_18 : decode cX3_countLeft 18 = .ok (.iload_n 1, 1) := by decide +kernel
theorem dX3_countLeft_19 : decode cX3_countLeft 19 = .ok (.aload_n 0, 1) := by decide +kernel
theorem dX3_countLeft_20 : decode cX3_countLeft 20 = .ok (.iload_n 2, 1) := by decide +kernel
theorem dX3_countLeft_21 : decode cX3_countLeft 21 = .ok (.iload_n 3, 1) := by decide +kernel
theorem dX3_countLeft_22 : decode cX3_countLeft 22 = .ok (.invokevirtual 41, 3) := by decide +kernel
theorem dX3_countLeft_25 : decode cX3_countLeft 25 = .ok (.iadd, 1) := by decide +kernel
theorem dX3_countLeft_26 : decode cX3_countLeft 26 = .ok (.istore_n 1, 1) := by decide +kernel
theorem dX3_countLeft_27 : decode cX3_countLeft 27 = .ok (.iinc 3 1, 3) := by decide +kernel
theorem dX3_countLeft_30 : decode cX3_countLeft 30 = .ok (.goto (-18), 3) := by decide +kernel
theorem dX3_countLeft_33 : decode cX3_countLeft 33 = .ok (.iinc 2 1, 3) := by decide +kernel
theorem dX3_countLeft_36 : decode cX3_countLeft 36 = .ok (.goto (-32), 3) := by decide +kernel
theorem dX3_countLeft_39 : decode cX3_countLeft 39 = .ok (.iload_n 1, 1) := by decide +kernel
theorem dX3_countLeft_40 : decode cX3_countLeft 40 = .ok (.ireturn, 1) := by decide +kernel
theorem dX3_countFrom_0 : decode cX3_countFrom 0 = .ok (.iconst 0, 1) := by decide +kernel
theorem dX3_countFrom_1 : decode cX3_countFrom 1 = .ok (.istore_n 3, 1) := by decide +kernel
theorem dX3_countFrom_2 : decode cX3_countFrom 2 = .ok (.iconst 0, 1) := by decide +kernel
theorem dX3_countFrom_3 : decode cX3_countFrom 3 = .ok (.istore 4, 2) := by decide +kernel
theorem dX3_countFrom_5 : decode cX3_countFrom 5 = .ok (.iload 4, 2) := by decide +kernel
theorem dX3_countFrom_7 : decode cX3_countFrom 7 = .ok (.bipush 12, 2) := by decide +kernel
theorem dX3_countFrom_9 : decode cX3_countFrom 9 = .ok (.if_icmp .ge 38, 3) := by decide +kernel
theorem dX3_countFrom_12 : decode cX3_countFrom 12 = .ok (.aload_n 0, 1) := by decide +kernel
theorem dX3_countFrom_13 : decode cX3_countFrom 13 = .ok (.iconst 0, 1) := by decide +kernel
theorem dX3_countFrom_14 : decode cX3_countFrom 14 = .ok (.putfield 30, 3) := by decide +kernel
theorem dX3_countFrom_17 : decode cX3_countFrom 17 = .ok (.aload_n 0, 1) := by decide +kernel
theorem dX3_countFrom_18 : decode cX3_countFrom 18 = .ok (.iload_n 1, 1) := by decide +kernel
theorem dX3_countFrom_19 : decode cX3_countFrom 19 = .ok (.iload_n 2, 1) := by decide +kernel
theorem dX3_countFrom_20 : decode cX3_countFrom 20 = .ok (.iconst 1, 1) := by decide +kernel
theorem dX3_countFrom_21 : decode cX3_countFrom 21 = .ok (.iload 4, 2) := by decide +kernel
theorem dX3_countFrom_23 : decode cX3_countFrom 23 = .ok (.ishl, 1) := by decide +kernel
theorem dX3_countFrom_24 : decode cX3_countFrom 24 = .ok (.invokevirtual 34, 3) := by decide +kernel
theorem dX3_countFrom_27 : decode cX3_countFrom 27 = .ok (.aload_n 0, 1) := by decide +kernel
theorem dX3_countFrom_28 : decode cX3_countFrom 28 = .ok (.getfield 30, 3) := by decide +kernel
theorem dX3_countFrom_31 : decode cX3_countFrom 31 = .ok (.ifCond .le 10, 3) := by decide +kernel
theorem dX3_countFrom_34 : decode cX3_countFrom 34 = .ok (.iinc 3 1, 3) := by decide +kernel
theorem dX3_countFrom_37 : decode cX3_countFrom 37 = .ok (.aload_n 0, 1) := by decide +kernel
theorem dX3_countFrom_38 : decode cX3_countFrom 38 = .ok (.invokevirtual 38, 3) := by decide +kernel
theorem dX3_countFrom_41 : decode cX3_countFrom 41 = .ok (.iinc 4 1, 3) := by decide +kernel
theorem dX3_countFrom_44 : decode cX3_countFrom 44 = .ok (.goto (-39), 3) := by decide +kernel
theorem dX3_countFrom_47 : decode cX3_countFrom 47 = .ok (.iload_n 3, 1) := by decide +kernel
theorem dX3_countFrom_48 : decode cX3_countFrom 48 = .ok (.ireturn, 1) := by decide +kernel
theorem dX3_spread_0 : decode cX3_spread 0 = .ok (.iconst 0, 1) := by decide +kernel
theorem dX3_spread_1 : decode cX3_spread 1 = .ok (.istore_n 1, 1) := by decide +kernel
theorem dX3_spread_2 : decode cX3_spread 2 = .ok (.iload_n 1, 1) := by decide +kernel
theorem dX3_spread_3 : decode cX3_spread 3 = .ok (.aload_n 0, 1) := by decide +kernel
theorem dX3_spread_4 : decode cX3_spread 4 = .ok (.getfield 15, 3) := by decide +kernel
theorem dX3_spread_7 : decode cX3_spread 7 = .ok (.arraylength, 1) := by decide +kernel
theorem dX3_spread_8 : decode cX3_spread 8 = .ok (.if_icmp .ge 109, 3) := by decide +kernel
theorem dX3_spread_11 : decode cX3_spread 11 = .ok (.iload_n 1, 1) := by decide +kernel
theorem dX3_spread_12 : decode cX3_spread 12 = .ok (.aload_n 0, 1) := by decide +kernel
theorem dX3_spread_13 : decode cX3_spread 13 = .ok (.getfield 30, 3) := by decide +kernel
theorem dX3_spread_16 : decode cX3_spread 16 = .ok (.if_icmp .ge 101, 3) := by decide +kernel
theorem dX3_spread_19 : decode cX3_spread 19 = .ok (.aload_n 0, 1) := by decide +kernel
theorem dX3_spread_20 : decode cX3_spread 20 = .ok (.getfield 15, 3) := by decide +kernel
theorem dX3_spread_23 : decode cX3_spread 23 = .ok (.iload_n 1, 1) := by decide +kernel
theorem dX3_spread_24 : decode cX3_spread 24 = .ok (.iaload, 1) := by decide +kernel
theorem dX3_spread_25 : decode cX3_spread 25 = .ok (.bipush 12, 2) := by decide +kernel
theorem dX3_spread_27 : decode cX3_spread 27 = .ok (.ishr, 1) := by decide +kernel
theorem dX3_spread_28 : decode cX3_spread 28 = .ok (.istore_n 2, 1) := by decide +kernel
theorem dX3_spread_29 : decode cX3_spread 29 = .ok (.aload_n 0, 1) := by decide +kernel
theorem dX3_spread_30 : decode cX3_spread 30 = .ok (.getfield 15, 3) := by decide +kernel
theorem dX3_spread_33 : decode cX3_spread 33 = .ok (.iload_n 1, 1) := by decide +kernel
theorem dX3_spread_34 : decode cX3_spread 34 = .ok (.iaload, 1) := by decide +kernel
theorem dX3_spread_35 : decode cX3_spread 35 = .ok (.sipush 4095, 3) := by decide +kernel
theorem dX3_spread_38 : decode cX3_spread 38 = .ok (.iand, 1) := by decide +kernel
theorem dX3_spread_39 : decode cX3_spread 39 = .ok (.istore_n 3, 1) := by decide +kernel
theorem dX3_spread_40 : decode cX3_spread 40 = .ok (.iload_n 2, 1) := by decide +kernel
theorem dX3_spread_41 : decode cX3_spread 41 = .ok (.bipush 12, 2) := by decide +kernel
theorem dX3_spread_43 : decode cX3_spread 43 = .ok (.idiv, 1) := by decide +kernel
theorem dX3_spread_44 : decode cX3_spread 44 = .ok (.istore 4, 2) := by decide +kernel
theorem dX3_spread_46 : decode cX3_spread 46 = .ok (.iload_n 2, 1) := by decide +kernel
theorem dX3_spread_47 : decode cX3_spread 47 = .ok (.bipush 12, 2) := by decide +kernel
theorem dX3_spread_49 : decode cX3_spread 49 = .ok (.irem, 1) := by decide +kernel
theorem dX3_spread_50 : decode cX3_spread 50 = .ok (.istore 5, 2) := by decide +kernel
theorem dX3_spread_52 : decode cX3_spread 52 = .ok (.aload_n 0, 1) := by decide +kernel
theorem dX3_spread_53 : decode cX3_spread 53 = .ok (.iload 4, 2) := by decide +kernel
theorem dX3_spread_55 : decode cX3_spread 55 = .ok (.iload 5, 2) := by decide +kernel
theorem dX3_spread_57 : decode cX3_spread 57 = .ok (.iload_n 3, 1) := by decide +kernel
theorem dX3_spread_58 : decode cX3_spread 58 = .ok (.iconst 1, 1) := by decide +kernel
theorem dX3_spread_59 : decode cX3_spread 59 = .ok (.ishl, 1) := by decide +kernel
theorem dX3_spread_60 : decode cX3_spread 60 = .ok (.iload_n 3, 1) := by decide +kernel
theorem dX3_spread_61 : decode cX3_spread 61 = .ok (.iconst 1, 1) := by decide +kernel
theorem dX3_spread_62 : decode cX3_spread 62 = .ok (.ishr, 1) := by decide +kernel
theorem dX3_spread_63 : decode cX3_spread 63 = .ok (.ior, 1) := by decide +kernel
theorem dX3_spread_64 : decode cX3_spread 64 = .ok (.invokevirtual 34, 3) := by decide +kernel
theorem dX3_spread_67 : decode cX3_spread 67 = .ok (.aload_n 0, 1) := by decide +kernel
theorem dX3_spread_68 : decode cX3_spread 68 = .ok (.iload 4, 2) := by decide +kernel
theorem dX3_spread_70 : decode cX3_spread 70 = .ok (.iconst 1, 1) := by decide +kernel
theorem dX3_spread_71 : decode cX3_spread 71 = .ok (.isub, 1) := by decide +kernel
theorem dX3_spread_72 : decode cX3_spread 72 = .ok (.iload 5, 2) := by decide +kernel
theorem dX3_spread_74 : decode cX3_spread 74 = .ok (.iload_n 3, 1) := by decide +kernel
theorem dX3_spread_75 : decode cX3_spread 75 = .ok (.invokevirtual 34, 3) := by decide +kernel
theorem dX3_spread_78 : decode cX3_spread 78 = .ok (.aload_n 0, 1) := by decide +kernel
theorem dX3_spread_79 : decode cX3_spread 79 = .ok (.iload 4, 2) := by decide +kernel
theorem dX3_spread_81 : decode cX3_spread 81 = .ok (.iconst 1, 1) := by decide +kernel
theorem dX3_spread_82 : decode cX3_spread 82 = .ok (.iadd, 1) := by decide +kernel
theorem dX3_spread_83 : decode cX3_spread 83 = .ok (.iload 5, 2) := by decide +kernel
theorem dX3_spread_85 : decode cX3_spread 85 = .ok (.iload_n 3, 1) := by decide +kernel
theorem dX3_spread_86 : decode cX3_spread 86 = .ok (.invokevirtual 34, 3) := by decide +kernel
theorem dX3_spread_89 : decode cX3_spread 89 = .ok (.aload_n 0, 1) := by decide +kernel
theorem dX3_spread_90 : decode cX3_spread 90 = .ok (.iload 4, 2) := by decide +kernel
theorem dX3_spread_92 : decode cX3_spread 92 = .ok (.iload 5, 2) := by decide +kernel
theorem dX3_spread_94 : decode cX3_spread 94 = .ok (.iconst 1, 1) := by decide +kernel
theorem dX3_spread_95 : decode cX3_spread 95 = .ok (.isub, 1) := by decide +kernel
theorem dX3_spread_96 : decode cX3_spread 96 = .ok (.iload_n 3, 1) := by decide +kernel
theorem dX3_spread_97 : decode cX3_spread 97 = .ok (.invokevirtual 34, 3) := by decide +kernel
theorem dX3_spread_100 : decode cX3_spread 100 = .ok (.aload_n 0, 1) := by decide +kernel
theorem dX3_spread_101 : decode cX3_spread 101 = .ok (.iload 4, 2) := by decide +kernel
theorem dX3_spread_103 : decode cX3_spread 103 = .ok (.iload 5, 2) := by decide +kernel
theorem dX3_spread_105 : decode cX3_spread 105 = .ok (.iconst 1, 1) := by decide +kernel
theorem dX3_spread_106 : decode cX3_spread 106 = .ok (.iadd, 1) := by decide +kernel
theorem dX3_spread_107 : decode cX3_spread 107 = .ok (.iload_n 3, 1) := by decide +kernel
theorem dX3_spread_108 : decode cX3_spread 108 = .ok (.invokevirtual 34, 3) := by decide +kernel
theorem dX3_spread_111 : decode cX3_spread 111 = .ok (.iinc 1 1, 3) := by decide +kernel
theorem dX3_spread_114 : decode cX3_spread 114 = .ok (.goto (-112), 3) := by decide +kernel
theorem dX3_spread_117 : decode cX3_spread 117 = .ok (.return_, 1) := by decide +kernel
theorem dX3_take_0 : decode cX3_take 0 = .ok (.iload_n 1, 1) := by decide +kernel
theorem dX3_take_1 : decode cX3_take 1 = .ok (.invokestatic 45, 3) := by decide +kernel
theorem dX3_take_4 : decode cX3_take 4 = .ok (.ifCond .eq 10, 3) := by decide +kernel
theorem dX3_take_7 : decode cX3_take 7 = .ok (.iload_n 2, 1) := by decide +kernel
theorem dX3_take_8 : decode cX3_take 8 = .ok (.invokestatic 45, 3) := by decide +kernel
theorem dX3_take_11 : decode cX3_take 11 = .ok (.ifCond .ne 4, 3) := by decide +kernel
theorem dX3_take_14 : decode cX3_take 14 = .ok (.return_, 1) := by decide +kernel
theorem dX3_take_15 : decode cX3_take 15 = .ok (.iload_n 1, 1) := by decide +kernel
theorem dX3_take_16 : decode cX3_take 16 = .ok (.bipush 12, 2) := by decide +kernel
theorem dX3_take_18 : decode cX3_take 18 = .ok (.imul, 1) := by decide +kernel
theorem dX3_take_19 : decode cX3_take 19 = .ok (.iload_n 2, 1) := by decide +kernel
theorem dX3_take_20 : decode cX3_take 20 = .ok (.iadd, 1) := by decide +kernel
theorem dX3_take_21 : decode cX3_take 21 = .ok (.istore 4, 2) := by decide +kernel
theorem dX3_take_23 : decode cX3_take 23 = .ok (.aload_n 0, 1) := by decide +kernel
theorem dX3_take_24 : decode cX3_take 24 = .ok (.getfield 9, 3) := by decide +kernel
theorem dX3_take_27 : decode cX3_take 27 = .ok (.iload 4, 2) := by decide +kernel
theorem dX3_take_29 : decode cX3_take 29 = .ok (.iaload, 1) := by decide +kernel
theorem dX3_take_30 : decode cX3_take 30 = .ok (.iload_n 3, 1) := by decide +kernel
theorem dX3_take_31 : decode cX3_take 31 = .ok (.iand, 1) := by decide +kernel
theorem dX3_take_32 : decode cX3_take 32 = .ok (.istore 5, 2) := by decide +kernel
theorem dX3_take_34 : decode cX3_take 34 = .ok (.iload 5, 2) := by decide +kernel
theorem dX3_take_36 : decode cX3_take 36 = .ok (.ifCond .eq 54, 3) := by decide +kernel
theorem dX3_take_39 : decode cX3_take 39 = .ok (.aload_n 0, 1) := by decide +kernel
theorem dX3_take_40 : decode cX3_take 40 = .ok (.getfield 30, 3) := by decide +kernel
theorem dX3_take_43 : decode cX3_take 43 = .ok (.aload_n 0, 1) := by decide +kernel
theorem dX3_take_44 : decode cX3_take 44 = .ok (.getfield 15, 3) := by decide +kernel
theorem dX3_take_47 : decode cX3_take 47 = .ok (.arraylength, 1) := by decide +kernel
theorem dX3_take_48 : decode cX3_take 48 = .ok (.if_icmp .ge 42, 3) := by decide +kernel
theorem dX3_take_51 : decode cX3_take 51 = .ok (.aload_n 0, 1) := by decide +kernel
theorem dX3_take_52 : decode cX3_take 52 = .ok (.getfield 9, 3) := by decide +kernel
theorem dX3_take_55 : decode cX3_take 55 = .ok (.iload 4, 2) := by decide +kernel
theorem dX3_take_57 : decode cX3_take 57 = .ok (.dup2, 1) := by decide +kernel
theorem dX3_take_58 : decode cX3_take 58 = .ok (.iaload, 1) := by decide +kernel
theorem dX3_take_59 : decode cX3_take 59 = .ok (.iload 5, 2) := by decide +kernel
theorem dX3_take_61 : decode cX3_take 61 = .ok (.ixor, 1) := by decide +kernel
theorem dX3_take_62 : decode cX3_take 62 = .ok (.iastore, 1) := by decide +kernel
theorem dX3_take_63 : decode cX3_take 63 = .ok (.aload_n 0, 1) := by decide +kernel
theorem dX3_take_64 : decode cX3_take 64 = .ok (.getfield 15, 3) := by decide +kernel
theorem dX3_take_67 : decode cX3_take 67 = .ok (.aload_n 0, 1) := by decide +kernel
theorem dX3_take_68 : decode cX3_take 68 = .ok (.getfield 30, 3) := by decide +kernel
theorem dX3_take_71 : decode cX3_take 71 = .ok (.iload 4, 2) := by decide +kernel
theorem dX3_take_73 : decode cX3_take 73 = .ok (.bipush 12, 2) := by decide +kernel
theorem dX3_take_75 : decode cX3_take 75 = .ok (.ishl, 1) := by decide +kernel
theorem dX3_take_76 : decode cX3_take 76 = .ok (.iload 5, 2) := by decide +kernel
theorem dX3_take_78 : decode cX3_take 78 = .ok (.ior, 1) := by decide +kernel
theorem dX3_take_79 : decode cX3_take 79 = .ok (.iastore, 1) := by decide +kernel
theorem dX3_take_80 : decode cX3_take 80 = .ok (.aload_n 0, 1) := by decide +kernel
theorem dX3_take_81 : decode cX3_take 81 = .ok (.dup, 1) := by decide +kernel
theorem dX3_take_82 : decode cX3_take 82 = .ok (.getfield 30, 3) := by decide +kernel
theorem dX3_take_85 : decode cX3_take 85 = .ok (.iconst 1, 1) := by decide +kernel
theorem dX3_take_86 : decode cX3_take 86 = .ok (.iadd, 1) := by decide +kernel
theorem dX3_take_87 : decode cX3_take 87 = .ok (.putfield 30, 3) := by decide +kernel
theorem dX3_take_90 : decode cX3_take 90 = .ok (.return_, 1) := by decide +kernel
theorem dX5_bitCount_0 : decode cX5_bitCount 0 = .ok (.iload_n 0, 1) := by decide +kernel
theorem dX5_bitCount_1 : decode cX5_bitCount 1 = .ok (.iload_n 0, 1) := by decide +kernel
theorem dX5_bitCount_2 : decode cX5_bitCount 2 = .ok (.iconst 1, 1) := by decide +kernel
theorem dX5_bitCount_3 : decode cX5_bitCount 3 = .ok (.iushr, 1) := by decide +kernel
theorem dX5_bitCount_4 : decode cX5_bitCount 4 = .ok (.ldc_w 265, 3) := by decide +kernel
theorem dX5_bitCount_7 : decode cX5_bitCount 7 = .ok (.iand, 1) := by decide +kernel
theorem dX5_bitCount_8 : decode cX5_bitCount 8 = .ok (.isub, 1) := by decide +kernel
theorem dX5_bitCount_9 : decode cX5_bitCount 9 = .ok (.istore_n 0, 1) := by decide +kernel
theorem dX5_bitCount_10 : decode cX5_bitCount 10 = .ok (.iload_n 0, 1) := by decide +kernel
theorem dX5_bitCount_11 : decode cX5_bitCount 11 = .ok (.ldc_w 266, 3) := by decide +kernel
theorem dX5_bitCount_14 : decode cX5_bitCount 14 = .ok (.iand, 1) := by decide +kernel
theorem dX5_bitCount_15 : decode cX5_bitCount 15 = .ok (.iload_n 0, 1) := by decide +kernel
theorem dX5_bitCount_16 : decode cX5_bitCount 16 = .ok (.iconst 2, 1) := by decide +kernel
theorem dX5_bitCount_17 : decode cX5_bitCount 17 = .ok (.iushr, 1) := by decide +kernel
theorem dX5_bitCount_18 : decode cX5_bitCount 18 = .ok (.ldc_w 266, 3) := by decide +kernel
theorem dX5_bitCount_21 : decode cX5_bitCount 21 = .ok (.iand, 1) := by decide +kernel
theorem dX5_bitCount_22 : decode cX5_bitCount 22 = .ok (.iadd, 1) := by decide +kernel
theorem dX5_bitCount_23 : decode cX5_bitCount 23 = .ok (.istore_n 0, 1) := by decide +kernel
theorem dX5_bitCount_24 : decode cX5_bitCount 24 = .ok (.iload_n 0, 1) := by decide +kernel
theorem dX5_bitCount_25 : decode cX5_bitCount 25 = .ok (.iload_n 0, 1) := by decide +kernel
theorem dX5_bitCount_26 : decode cX5_bitCount 26 = .ok (.iconst 4, 1) := by decide +kernel
theorem dX5_bitCount_27 : decode cX5_bitCount 27 = .ok (.iushr, 1) := by decide +kernel
theorem dX5_bitCount_28 : decode cX5_bitCount 28 = .ok (.iadd, 1) := by decide +kernel
theorem dX5_bitCount_29 : decode cX5_bitCount 29 = .ok (.ldc_w 267, 3) := by decide +kernel
theorem dX5_bitCount_32 : decode cX5_bitCount 32 = .ok (.iand, 1) := by decide +kernel
theorem dX5_bitCount_33 : decode cX5_bitCount 33 = .ok (.istore_n 0, 1) := by decide +kernel
theorem dX5_bitCount_34 : decode cX5_bitCount 34 = .ok (.iload_n 0, 1) := by decide +kernel
theorem dX5_bitCount_35 : decode cX5_bitCount 35 = .ok (.iload_n 0, 1) := by decide +kernel
theorem dX5_bitCount_36 : decode cX5_bitCount 36 = .ok (.bipush 8, 2) := by decide +kernel
theorem dX5_bitCount_38 : decode cX5_bitCount 38 = .ok (.iushr, 1) := by decide +kernel
theorem dX5_bitCount_39 : decode cX5_bitCount 39 = .ok (.iadd, 1) := by decide +kernel
theorem dX5_bitCount_40 : decode cX5_bitCount 40 = .ok (.istore_n 0, 1) := by decide +kernel
theorem dX5_bitCount_41 : decode cX5_bitCount 41 = .ok (.iload_n 0, 1) := by decide +kernel
theorem dX5_bitCount_42 : decode cX5_bitCount 42 = .ok (.iload_n 0, 1) := by decide +kernel
theorem dX5_bitCount_43 : decode cX5_bitCount 43 = .ok (.bipush 16, 2) := by decide +kernel
theorem dX5_bitCount_45 : decode cX5_bitCount 45 = .ok (.iushr, 1) := by decide +kernel
theorem dX5_bitCount_46 : decode cX5_bitCount 46 = .ok (.iadd, 1) := by decide +kernel
theorem dX5_bitCount_47 : decode cX5_bitCount 47 = .ok (.istore_n 0, 1) := by decide +kernel
theorem dX5_bitCount_48 : decode cX5_bitCount 48 = .ok (.iload_n 0, 1) := by decide +kernel
theorem dX5_bitCount_49 : decode cX5_bitCount 49 = .ok (.bipush 63, 2) := by decide +kernel
theorem dX5_bitCount_51 : decode cX5_bitCount 51 = .ok (.iand, 1) := by decide +kernel
theorem dX5_bitCount_52 : decode cX5_bitCount 52 = .ok (.ireturn, 1) := by decide +kernel
theorem dX5_numberOfLeadingZeros_0 : decode cX5_numberOfLeadingZeros 0 = .ok (.iload_n 0, 1) := by decide +kernel
theorem dX5_numberOfLeadingZeros_1 : decode cX5_numberOfLeadingZeros 1 = .ok (.ifCond .gt 14, 3) := by decide +kernel
theorem dX5_numberOfLeadingZeros_4 : decode cX5_numberOfLeadingZeros 4 = .ok (.iload_n 0, 1) := by decide +kernel
theorem dX5_numberOfLeadingZeros_5 : decode cX5_numberOfLeadingZeros 5 = .ok (.ifCond .ne 8, 3) := by decide +kernel
theorem dX5_numberOfLeadingZeros_8 : decode cX5_numberOfLeadingZeros 8 = .ok (.bipush 32, 2) := by decide +kernel
theorem dX5_numberOfLeadingZeros_10 : decode cX5_numberOfLeadingZeros 10 = .ok (.goto 4, 3) := by decide +kernel
theorem dX5_numberOfLeadingZeros_13 : decode cX5_numberOfLeadingZeros 13 = .ok (.iconst 0, 1) := by decide +kernel
theorem dX5_numberOfLeadingZeros_14 : decode cX5_numberOfLeadingZeros 14 = .ok (.ireturn, 1) := by decide +kernel
theorem dX5_numberOfLeadingZeros_15 : decode cX5_numberOfLeadingZeros 15 = .ok (.bipush 31, 2) := by decide +kernel
theorem dX5_numberOfLeadingZeros_17 : decode cX5_numberOfLeadingZeros 17 = .ok (.istore_n 1, 1) := by decide +kernel
theorem dX5_numberOfLeadingZeros_18 : decode cX5_numberOfLeadingZeros 18 = .ok (.iload_n 0, 1) := by decide +kernel
theorem dX5_numberOfLeadingZeros_19 : decode cX5_numberOfLeadingZeros 19 = .ok (.ldc_w 264, 3) := by decide +kernel
theorem dX5_numberOfLeadingZeros_22 : decode cX5_numberOfLeadingZeros 22 = .ok (.if_icmp .lt 11, 3) := by decide +kernel
theorem dX5_numberOfLeadingZeros_25 : decode cX5_numberOfLeadingZeros 25 = .ok (.iinc 1 (-16), 3) := by decide +kernel
theorem dX5_numberOfLeadingZeros_28 : decode cX5_numberOfLeadingZeros 28 = .ok (.iload_n 0, 1) := by decide +kernel
theorem dX5_numberOfLeadingZeros_29 : decode cX5_numberOfLeadingZeros 29 = .ok (.bipush 16, 2) := by decide +kernel
theorem dX5_numberOfLeadingZeros_31 : decode cX5_numberOfLeadingZeros 31 = .ok (.iushr, 1) := by decide +kernel
theorem dX5_numberOfLeadingZeros_32 : decode cX5_numberOfLeadingZeros 32 = .ok (.istore_n 0, 1) := by decide +kernel
theorem dX5_numberOfLeadingZeros_33 : decode cX5_numberOfLeadingZeros 33 = .ok (.iload_n 0, 1) := by decide +kernel
theorem dX5_numberOfLeadingZeros_34 : decode cX5_numberOfLeadingZeros 34 = .ok (.sipush 256, 3) := by decide +kernel
theorem dX5_numberOfLeadingZeros_37 : decode cX5_numberOfLeadingZeros 37 = .ok (.if_icmp .lt 11, 3) := by decide +kernel
theorem dX5_numberOfLeadingZeros_40 : decode cX5_numberOfLeadingZeros 40 = .ok (.iinc 1 (-8), 3) := by decide +kernel
theorem dX5_numberOfLeadingZeros_43 : decode cX5_numberOfLeadingZeros 43 = .ok (.iload_n 0, 1) := by decide +kernel
theorem dX5_numberOfLeadingZeros_44 : decode cX5_numberOfLeadingZeros 44 = .ok (.bipush 8, 2) := by decide +kernel
theorem dX5_numberOfLeadingZeros_46 : decode cX5_numberOfLeadingZeros 46 = .ok (.iushr, 1) := by decide +kernel
theorem dX5_numberOfLeadingZeros_47 : decode cX5_numberOfLeadingZeros 47 = .ok (.istore_n 0, 1) := by decide +kernel
theorem dX5_numberOfLeadingZeros_48 : decode cX5_numberOfLeadingZeros 48 = .ok (.iload_n 0, 1) := by decide +kernel
theorem dX5_numberOfLeadingZeros_49 : decode cX5_numberOfLeadingZeros 49 = .ok (.bipush 16, 2) := by decide +kernel
theorem dX5_numberOfLeadingZeros_51 : decode cX5_numberOfLeadingZeros 51 = .ok (.if_icmp .lt 10, 3) := by decide +kernel
theorem dX5_numberOfLeadingZeros_54 : decode cX5_numberOfLeadingZeros 54 = .ok (.iinc 1 (-4), 3) := by decide +kernel
theorem dX5_numberOfLeadingZeros_57 : decode cX5_numberOfLeadingZeros 57 = .ok (.iload_n 0, 1) := by decide +kernel
theorem dX5_numberOfLeadingZeros_58 : decode cX5_numberOfLeadingZeros 58 = .ok (.iconst 4, 1) := by decide +kernel
theorem dX5_numberOfLeadingZeros_59 : decode cX5_numberOfLeadingZeros 59 = .ok (.iushr, 1) := by decide +kernel
theorem dX5_numberOfLeadingZeros_60 : decode cX5_numberOfLeadingZeros 60 = .ok (.istore_n 0, 1) := by decide +kernel
theorem dX5_numberOfLeadingZeros_61 : decode cX5_numberOfLeadingZeros 61 = .ok (.iload_n 0, 1) := by decide +kernel
theorem dX5_numberOfLeadingZeros_62 : decode cX5_numberOfLeadingZeros 62 = .ok (.iconst 4, 1) := by decide +kernel
theorem dX5_numberOfLeadingZeros_63 : decode cX5_numberOfLeadingZeros 63 = .ok (.if_icmp .lt 10, 3) := by decide +kernel
theorem dX5_numberOfLeadingZeros_66 : decode cX5_numberOfLeadingZeros 66 = .ok (.iinc 1 (-2), 3) := by decide +kernel
theorem dX5_numberOfLeadingZeros_69 : decode cX5_numberOfLeadingZeros 69 = .ok (.iload_n 0, 1) := by decide +kernel
theorem dX5_numberOfLeadingZeros_70 : decode cX5_numberOfLeadingZeros 70 = .ok (.iconst 2, 1) := by decide +kernel
theorem dX5_numberOfLeadingZeros_71 : decode cX5_numberOfLeadingZeros 71 = .ok (.iushr, 1) := by decide +kernel
theorem dX5_numberOfLeadingZeros_72 : decode cX5_numberOfLeadingZeros 72 = .ok (.istore_n 0, 1) := by decide +kernel
theorem dX5_numberOfLeadingZeros_73 : decode cX5_numberOfLeadingZeros 73 = .ok (.iload_n 1, 1) := by decide +kernel
theorem dX5_numberOfLeadingZeros_74 : decode cX5_numberOfLeadingZeros 74 = .ok (.iload_n 0, 1) := by decide +kernel
theorem dX5_numberOfLeadingZeros_75 : decode cX5_numberOfLeadingZeros 75 = .ok (.iconst 1, 1) := by decide +kernel
theorem dX5_numberOfLeadingZeros_76 : decode cX5_numberOfLeadingZeros 76 = .ok (.iushr, 1) := by decide +kernel
theorem dX5_numberOfLeadingZeros_77 : decode cX5_numberOfLeadingZeros 77 = .ok (.isub, 1) := by decide +kernel
theorem dX5_numberOfLeadingZeros_78 : decode cX5_numberOfLeadingZeros 78 = .ok (.ireturn, 1) := by decide +kernel
theorem dX5_numberOfTrailingZeros_0 : decode cX5_numberOfTrailingZeros 0 = .ok (.iload_n 0, 1) := by decide +kernel
theorem dX5_numberOfTrailingZeros_1 : decode cX5_numberOfTrailingZeros 1 = .ok (.iconst (-1), 1) := by decide +kernel
theorem dX5_numberOfTrailingZeros_2 : decode cX5_numberOfTrailingZeros 2 = .ok (.ixor, 1) := by decide +kernel
theorem dX5_numberOfTrailingZeros_3 : decode cX5_numberOfTrailingZeros 3 = .ok (.iload_n 0, 1) := by decide +kernel
theorem dX5_numberOfTrailingZeros_4 : decode cX5_numberOfTrailingZeros 4 = .ok (.iconst 1, 1) := by decide +kernel
theorem dX5_numberOfTrailingZeros_5 : decode cX5_numberOfTrailingZeros 5 = .ok (.isub, 1) := by decide +kernel
theorem dX5_numberOfTrailingZeros_6 : decode cX5_numberOfTrailingZeros 6 = .ok (.iand, 1) := by decide +kernel
theorem dX5_numberOfTrailingZeros_7 : decode cX5_numberOfTrailingZeros 7 = .ok (.istore_n 0, 1) := by decide +kernel
theorem dX5_numberOfTrailingZeros_8 : decode cX5_numberOfTrailingZeros 8 = .ok (.iload_n 0, 1) := by decide +kernel
theorem dX5_numberOfTrailingZeros_9 : decode cX5_numberOfTrailingZeros 9 = .ok (.ifCond .gt 8, 3) := by decide +kernel
theorem dX5_numberOfTrailingZeros_12 : decode cX5_numberOfTrailingZeros 12 = .ok (.iload_n 0, 1) := by decide +kernel
theorem dX5_numberOfTrailingZeros_13 : decode cX5_numberOfTrailingZeros 13 = .ok (.bipush 32, 2) := by decide +kernel
theorem dX5_numberOfTrailingZeros_15 : decode cX5_numberOfTrailingZeros 15 = .ok (.iand, 1) := by decide +kernel
theorem dX5_numberOfTrailingZeros_16 : decode cX5_numberOfTrailingZeros 16 = .ok (.ireturn, 1) := by decide +kernel
theorem dX5_numberOfTrailingZeros_17 : decode cX5_numberOfTrailingZeros 17 = .ok (.iconst 1, 1) := by decide +kernel
theorem dX5_numberOfTrailingZeros_18 : decode cX5_numberOfTrailingZeros 18 = .ok (.istore_n 1, 1) := by decide +kernel
theorem dX5_numberOfTrailingZeros_19 : decode cX5_numberOfTrailingZeros 19 = .ok (.iload_n 0, 1) := by decide +kernel
theorem dX5_numberOfTrailingZeros_20 : decode cX5_numberOfTrailingZeros 20 = .ok (.ldc_w 264, 3) := by decide +kernel
theorem dX5_numberOfTrailingZeros_23 : decode cX5_numberOfTrailingZeros 23 = .ok (.if_icmp .le 11, 3) := by decide +kernel
theorem dX5_numberOfTrailingZeros_26 : decode cX5_numberOfTrailingZeros 26 = .ok (.iinc 1 16, 3) := by decide +kernel
theorem dX5_numberOfTrailingZeros_29 : decode cX5_numberOfTrailingZeros 29 = .ok (.iload_n 0, 1) := by decide +kernel
theorem dX5_numberOfTrailingZeros_30 : decode cX5_numberOfTrailingZeros 30 = .ok (.bipush 16, 2) := by decide +kernel
theorem dX5_numberOfTrailingZeros_32 : decode cX5_numberOfTrailingZeros 32 = .ok (.iushr, 1) := by decide +kernel
theorem dX5_numberOfTrailingZeros_33 : decode cX5_numberOfTrailingZeros 33 = .ok (.istore_n 0, 1) := by decide +kernel
theorem dX5_numberOfTrailingZeros_34 : decode cX5_numberOfTrailingZeros 34 = .ok (.iload_n 0, 1) := by decide +kernel
theorem dX5_numberOfTrailingZeros_35 : decode cX5_numberOfTrailingZeros 35 = .ok (.sipush 256, 3) := by decide +kernel
theorem dX5_numberOfTrailingZeros_38 : decode cX5_numberOfTrailingZeros 38 = .ok (.if_icmp .le 11, 3) := by decide +kernel
theorem dX5_numberOfTrailingZeros_41 : decode cX5_numberOfTrailingZeros 41 = .ok (.iinc 1 8, 3) := by decide +kernel
theorem dX5_numberOfTrailingZeros_44 : decode cX5_numberOfTrailingZeros 44 = .ok (.iload_n 0, 1) := by decide +kernel
theorem dX5_numberOfTrailingZeros_45 : decode cX5_numberOfTrailingZeros 45 = .ok (.bipush 8, 2) := by decide +kernel
theorem dX5_numberOfTrailingZeros_47 : decode cX5_numberOfTrailingZeros 47 = .ok (.iushr, 1) := by decide +kernel
theorem dX5_numberOfTrailingZeros_48 : decode cX5_numberOfTrailingZeros 48 = .ok (.istore_n 0, 1) := by decide +kernel
theorem dX5_numberOfTrailingZeros_49 : decode cX5_numberOfTrailingZeros 49 = .ok (.iload_n 0, 1) := by decide +kernel
theorem dX5_numberOfTrailingZeros_50 : decode cX5_numberOfTrailingZeros 50 = .ok (.bipush 16, 2) := by decide +kernel
theorem dX5_numberOfTrailingZeros_52 : decode cX5_numberOfTrailingZeros 52 = .ok (.if_icmp .le 10, 3) := by decide +kernel
theorem dX5_numberOfTrailingZeros_55 : decode cX5_numberOfTrailingZeros 55 = .ok (.iinc 1 4, 3) := by decide +kernel
theorem dX5_numberOfTrailingZeros_58 : decode cX5_numberOfTrailingZeros 58 = .ok (.iload_n 0, 1) := by decide +kernel
theorem dX5_numberOfTrailingZeros_59 : decode cX5_numberOfTrailingZeros 59 = .ok (.iconst 4, 1) := by decide +kernel
theorem dX5_numberOfTrailingZeros_60 : decode cX5_numberOfTrailingZeros 60 = .ok (.iushr, 1) := by decide +kernel
theorem dX5_numberOfTrailingZeros_61 : decode cX5_numberOfTrailingZeros 61 = .ok (.istore_n 0, 1) := by decide +kernel
theorem dX5_numberOfTrailingZeros_62 : decode cX5_numberOfTrailingZeros 62 = .ok (.iload_n 0, 1) := by decide +kernel
theorem dX5_numberOfTrailingZeros_63 : decode cX5_numberOfTrailingZeros 63 = .ok (.iconst 4, 1) := by decide +kernel
theorem dX5_numberOfTrailingZeros_64 : decode cX5_numberOfTrailingZeros 64 = .ok (.if_icmp .le 10, 3) := by decide +kernel
theorem dX5_numberOfTrailingZeros_67 : decode cX5_numberOfTrailingZeros 67 = .ok (.iinc 1 2, 3) := by decide +kernel
theorem dX5_numberOfTrailingZeros_70 : decode cX5_numberOfTrailingZeros 70 = .ok (.iload_n 0, 1) := by decide +kernel
theorem dX5_numberOfTrailingZeros_71 : decode cX5_numberOfTrailingZeros 71 = .ok (.iconst 2, 1) := by decide +kernel
theorem dX5_numberOfTrailingZeros_72 : decode cX5_numberOfTrailingZeros 72 = .ok (.iushr, 1) := by decide +kernel
theorem dX5_numberOfTrailingZeros_73 : decode cX5_numberOfTrailingZeros 73 = .ok (.istore_n 0, 1) := by decide +kernel
theorem dX5_numberOfTrailingZeros_74 : decode cX5_numberOfTrailingZeros 74 = .ok (.iload_n 1, 1) := by decide +kernel
theorem dX5_numberOfTrailingZeros_75 : decode cX5_numberOfTrailingZeros 75 = .ok (.iload_n 0, 1) := by decide +kernel
theorem dX5_numberOfTrailingZeros_76 : decode cX5_numberOfTrailingZeros 76 = .ok (.iconst 1, 1) := by decide +kernel
theorem dX5_numberOfTrailingZeros_77 : decode cX5_numberOfTrailingZeros 77 = .ok (.iushr, 1) := by decide +kernel
theorem dX5_numberOfTrailingZeros_78 : decode cX5_numberOfTrailingZeros 78 = .ok (.iadd, 1) := by decide +kernel
theorem dX5_numberOfTrailingZeros_79 : decode cX5_numberOfTrailingZeros 79 = .ok (.ireturn, 1) := by decide +kernel
theorem dX5_reverse_0 : decode cX5_reverse 0 = .ok (.iload_n 0, 1) := by decide +kernel
theorem dX5_reverse_1 : decode cX5_reverse 1 = .ok (.ldc_w 265, 3) := by decide +kernel
theorem dX5_reverse_4 : decode cX5_reverse 4 = .ok (.iand, 1) := by decide +kernel
theorem dX5_reverse_5 : decode cX5_reverse 5 = .ok (.iconst 1, 1) := by decide +kernel
theorem dX5_reverse_6 : decode cX5_reverse 6 = .ok (.ishl, 1) := by decide +kernel
theorem dX5_reverse_7 : decode cX5_reverse 7 = .ok (.iload_n 0, 1) := by decide +kernel
theorem dX5_reverse_8 : decode cX5_reverse 8 = .ok (.iconst 1, 1) := by decide +kernel
theorem dX5_reverse_9 : decode cX5_reverse 9 = .ok (.iushr, 1) := by decide +kernel
theorem dX5_reverse_10 : decode cX5_reverse 10 = .ok (.ldc_w 265, 3) := by decide +kernel
theorem dX5_reverse_13 : decode cX5_reverse 13 = .ok (.iand, 1) := by decide +kernel
theorem dX5_reverse_14 : decode cX5_reverse 14 = .ok (.ior, 1) := by decide +kernel
theorem dX5_reverse_15 : decode cX5_reverse 15 = .ok (.istore_n 0, 1) := by decide +kernel
theorem dX5_reverse_16 : decode cX5_reverse 16 = .ok (.iload_n 0, 1) := by decide +kernel
theorem dX5_reverse_17 : decode cX5_reverse 17 = .ok (.ldc_w 266, 3) := by decide +kernel
theorem dX5_reverse_20 : decode cX5_reverse 20 = .ok (.iand, 1) := by decide +kernel
theorem dX5_reverse_21 : decode cX5_reverse 21 = .ok (.iconst 2, 1) := by decide +kernel
theorem dX5_reverse_22 : decode cX5_reverse 22 = .ok (.ishl, 1) := by decide +kernel
theorem dX5_reverse_23 : decode cX5_reverse 23 = .ok (.iload_n 0, 1) := by decide +kernel
theorem dX5_reverse_24 : decode cX5_reverse 24 = .ok (.iconst 2, 1) := by decide +kernel
theorem dX5_reverse_25 : decode cX5_reverse 25 = .ok (.iushr, 1) := by decide +kernel
theorem dX5_reverse_26 : decode cX5_reverse 26 = .ok (.ldc_w 266, 3) := by decide +kernel
theorem dX5_reverse_29 : decode cX5_reverse 29 = .ok (.iand, 1) := by decide +kernel
theorem dX5_reverse_30 : decode cX5_reverse 30 = .ok (.ior, 1) := by decide +kernel
theorem dX5_reverse_31 : decode cX5_reverse 31 = .ok (.istore_n 0, 1) := by decide +kernel
theorem dX5_reverse_32 : decode cX5_reverse 32 = .ok (.iload_n 0, 1) := by decide +kernel
theorem dX5_reverse_33 : decode cX5_reverse 33 = .ok (.ldc_w 267, 3) := by decide +kernel
theorem dX5_reverse_36 : decode cX5_reverse 36 = .ok (.iand, 1) := by decide +kernel
theorem dX5_reverse_37 : decode cX5_reverse 37 = .ok (.iconst 4, 1) := by decide +kernel
theorem dX5_reverse_38 : decode cX5_reverse 38 = .ok (.ishl, 1) := by decide +kernel
theorem dX5_reverse_39 : decode cX5_reverse 39 = .ok (.iload_n 0, 1) := by decide +kernel
theorem dX5_reverse_40 : decode cX5_reverse 40 = .ok (.iconst 4, 1) := by decide +kernel
theorem dX5_reverse_41 : decode cX5_reverse 41 = .ok (.iushr, 1) := by decide +kernel
theorem dX5_reverse_42 : decode cX5_reverse 42 = .ok (.ldc_w 267, 3) := by decide +kernel
theorem dX5_reverse_45 : decode cX5_reverse 45 = .ok (.iand, 1) := by decide +kernel
theorem dX5_reverse_46 : decode cX5_reverse 46 = .ok (.ior, 1) := by decide +kernel
theorem dX5_reverse_47 : decode cX5_reverse 47 = .ok (.istore_n 0, 1) := by decide +kernel
theorem dX5_reverse_48 : decode cX5_reverse 48 = .ok (.iload_n 0, 1) := by decide +kernel
theorem dX5_reverse_49 : decode cX5_reverse 49 = .ok (.invokestatic 268, 3) := by decide +kernel
theorem dX5_reverse_52 : decode cX5_reverse 52 = .ok (.ireturn, 1) := by decide +kernel
theorem dX5_reverseBytes_0 : decode cX5_reverseBytes 0 = .ok (.iload_n 0, 1) := by decide +kernel
theorem dX5_reverseBytes_1 : decode cX5_reverseBytes 1 = .ok (.bipush 24, 2) := by decide +kernel
theorem dX5_reverseBytes_3 : decode cX5_reverseBytes 3 = .ok (.ishl, 1) := by decide +kernel
theorem dX5_reverseBytes_4 : decode cX5_reverseBytes 4 = .ok (.iload_n 0, 1) := by decide +kernel
theorem dX5_reverseBytes_5 : decode cX5_reverseBytes 5 = .ok (.ldc_w 274, 3) := by decide +kernel
theorem dX5_reverseBytes_8 : decode cX5_reverseBytes 8 = .ok (.iand, 1) := by decide +kernel
theorem dX5_reverseBytes_9 : decode cX5_reverseBytes 9 = .ok (.bipush 8, 2) := by decide +kernel
theorem dX5_reverseBytes_11 : decode cX5_reverseBytes 11 = .ok (.ishl, 1) := by decide +kernel
theorem dX5_reverseBytes_12 : decode cX5_reverseBytes 12 = .ok (.ior, 1) := by decide +kernel
theorem dX5_reverseBytes_13 : decode cX5_reverseBytes 13 = .ok (.iload_n 0, 1) := by decide +kernel
theorem dX5_reverseBytes_14 : decode cX5_reverseBytes 14 = .ok (.bipush 8, 2) := by decide +kernel
theorem dX5_reverseBytes_16 : decode cX5_reverseBytes 16 = .ok (.iushr, 1) := by decide +kernel
theorem dX5_reverseBytes_17 : decode cX5_reverseBytes 17 = .ok (.ldc_w 274, 3) := by decide +kernel
theorem dX5_reverseBytes_20 : decode cX5_reverseBytes 20 = .ok (.iand, 1) := by decide +kernel
theorem dX5_reverseBytes_21 : decode cX5_reverseBytes 21 = .ok (.ior, 1) := by decide +kernel
theorem dX5_reverseBytes_22 : decode cX5_reverseBytes 22 = .ok (.iload_n 0, 1) := by decide +kernel
theorem dX5_reverseBytes_23 : decode cX5_reverseBytes 23 = .ok (.bipush 24, 2) := by decide +kernel
theorem dX5_reverseBytes_25 : decode cX5_reverseBytes 25 = .ok (.iushr, 1) := by decide +kernel
theorem dX5_reverseBytes_26 : decode cX5_reverseBytes 26 = .ok (.ior, 1) := by decide +kernel
theorem dX5_reverseBytes_27 : decode cX5_reverseBytes 27 = .ok (.ireturn, 1) := by decide +kernel
end
section
theorem dX0_init_0 : decode cX0_init 0 = .ok (.aload_n 0, 1) := by decide +kernel
theorem dX0_init_1 : decode cX0_init 1 = .ok (.invokespecial 3, 3) := by decide +kernel
theorem dX0_init_4 : decode cX0_init 4 = .ok (.aload_n 0, 1) := by decide +kernel
theorem dX0_init_5 : decode cX0_init 5 = .ok (.bipush 6, 2) := by decide +kernel
theorem dX0_init_7 : decode cX0_init 7 = .ok (.anewarray 9, 3) := by decide +kernel
theorem dX0_init_10 : decode cX0_init 10 = .ok (.putfield 11, 3) := by decide +kernel
theorem dX0_init_13 : decode cX0_init 13 = .ok (.iconst 0, 1) := by decide +kernel
theorem dX0_init_14 : decode cX0_init 14 = .ok (.istore_n 1, 1) := by decide +kernel
theorem dX0_init_15 : decode cX0_init 15 = .ok (.iload_n 1, 1) := by decide +kernel
theorem dX0_init_16 : decode cX0_init 16 = .ok (.bipush 6, 2) := by decide +kernel
theorem dX0_init_18 : decode cX0_init 18 = .ok (.if_icmp .ge 22, 3) := by decide +kernel
theorem dX0_init_21 : decode cX0_init 21 = .ok (.aload_n 0, 1) := by decide +kernel
theorem dX0_init_22 : decode cX0_init 22 = .ok (.getfield 11, 3) := by decide +kernel
theorem dX0_init_25 : decode cX0_init 25 = .ok (.iload_n 1, 1) := by decide +kernel
theorem dX0_init_26 : decode cX0_init 26 = .ok (.new 9, 3) := by decide +kernel
theorem dX0_init_29 : decode cX0_init 29 = .ok (.dup, 1) := by decide +kernel
theorem dX0_init_30 : decode cX0_init 30 = .ok (.invokespecial 15, 3) := by decide +kernel
theorem dX0_init_33 : decode cX0_init 33 = .ok (.aastore, 1) := by decide +kernel
theorem dX0_init_34 : decode cX0_init 34 = .ok (.iinc 1 1, 3) := by decide +kernel
theorem dX0_init_37 : decode cX0_init 37 = .ok (.goto (-22), 3) := by decide +kernel
theorem dX0_init_40 : decode cX0_init 40 = .ok (.aload_n 0, 1) := by decide +kernel
theorem dX0_init_41 : decode cX0_init 41 = .ok (.new 16, 3) := by decide +kernel
theorem dX0_init_44 : decode cX0_init 44 = .ok (.dup, 1) := by decide +kernel
theorem dX0_init_45 : decode cX0_init 45 = .ok (.invokespecial 18, 3) := by decide +kernel
theorem dX0_init_48 : decode cX0_init 48 = .ok (.putfield 19, 3) := by decide +kernel
theorem dX0_init_51 : decode cX0_init 51 = .ok (.aload_n 0, 1) := by decide +kernel
theorem dX0_init_52 : decode cX0_init 52 = .ok (.new 9, 3) := by decide +kernel
theorem dX0_init_55 : decode cX0_init 55 = .ok (.dup, 1) := by decide +kernel
theorem dX0_init_56 : decode cX0_init 56 = .ok (.invokespecial 15, 3) := by decide +kernel
theorem dX0_init_59 : decode cX0_init 59 = .ok (.putfield 23, 3) := by decide +kernel
theorem dX0_init_62 : decode cX0_init 62 = .ok (.aload_n 0, 1) := by decide +kernel
theorem dX0_init_63 : decode cX0_init 63 = .ok (.new 27, 3) := by decide +kernel
theorem dX0_init_66 : decode cX0_init 66 = .ok (.dup, 1) := by decide +kernel
theorem dX0_init_67 : decode cX0_init 67 = .ok (.invokespecial 29, 3) := by decide +kernel
theorem dX0_init_70 : decode cX0_init 70 = .ok (.putfield 30, 3) := by decide +kernel
theorem dX0_init_73 : decode cX0_init 73 = .ok (.aload_n 0, 1) := by decide +kernel
theorem dX0_init_74 : decode cX0_init 74 = .ok (.new 9, 3) := by decide +kernel
theorem dX0_init_77 : decode cX0_init 77 = .ok (.dup, 1) := by decide +kernel
theorem dX0_init_78 : decode cX0_init 78 = .ok (.invokespecial 15, 3) := by decide +kernel
theorem dX0_init_81 : decode cX0_init 81 = .ok (.putfield 34, 3) := by decide +kernel
theorem dX0_init_84 : decode cX0_init 84 = .ok (.return_, 1) := by decide +kernel
theorem dX0_box_0 : decode cX0_box 0 = .ok (.iload_n 1, 1) := by decide +kernel
theorem dX0_box_1 : decode cX0_box 1 = .ok (.invokestatic 37, 3) := by decide +kernel
theorem dX0_box_4 : decode cX0_box 4 = .ok (.ifCond .ne 5, 3) := by decide +kernel
theorem dX0_box_7 : decode cX0_box 7 = .ok (.iconst (-1), 1) := by decide +kernel
theorem dX0_box_8 : decode cX0_box 8 = .ok (.ireturn, 1) := by decide +kernel
theorem dX0_box_9 : decode cX0_box 9 = .ok (.iload_n 2, 1) := by decide +kernel
theorem dX0_box_10 : decode cX0_box 10 = .ok (.iload 5, 2) := by decide +kernel
theorem dX0_box_12 : decode cX0_box 12 = .ok (.invokestatic 41, 3) := by decide +kernel
theorem dX0_box_15 : decode cX0_box 15 = .ok (.ifCond .eq 22, 3) := by decide +kernel
theorem dX0_box_18 : decode cX0_box 18 = .ok (.iload_n 3, 1) := by decide +kernel
theorem dX0_box_19 : decode cX0_box 19 = .ok (.iload 6, 2) := by decide +kernel
theorem dX0_box_21 : decode cX0_box 21 = .ok (.invokestatic 41, 3) := by decide +kernel
theorem dX0_box_24 : decode cX0_box 24 = .ok (.ifCond .eq 13, 3) := by decide +kernel
theorem dX0_box_27 : decode cX0_box 27 = .ok (.iload 4, 2) := by decide +kernel
theorem dX0_box_29 : decode cX0_box 29 = .ok (.iload 7, 2) := by decide +kernel
theorem dX0_box_31 : decode cX0_box 31 = .ok (.invokestatic 41, 3) := by decide +kernel
theorem dX0_box_34 : decode cX0_box 34 = .ok (.ifCond .ne 6, 3) := by decide +kernel
theorem dX0_box_37 : decode cX0_box 37 = .ok (.bipush (-2), 2) := by decide +kernel
theorem dX0_box_39 : decode cX0_box 39 = .ok (.ireturn, 1) := by decide +kernel
theorem dX0_box_40 : decode cX0_box 40 = .ok (.aload_n 0, 1) := by decide +kernel
theorem dX0_box_41 : decode cX0_box 41 = .ok (.getfield 34, 3) := by decide +kernel
theorem dX0_box_44 : decode cX0_box 44 = .ok (.iload_n 2, 1) := by decide +kernel
theorem dX0_box_45 : decode cX0_box 45 = .ok (.iload_n 3, 1) := by decide +kernel
theorem dX0_box_46 : decode cX0_box 46 = .ok (.iload 4, 2) := by decide +kernel
theorem dX0_box_48 : decode cX0_box 48 = .ok (.iload_n 2, 1) := by decide +kernel
theorem dX0_box_49 : decode cX0_box 49 = .ok (.iload 5, 2) := by decide +kernel
theorem dX0_box_51 : decode cX0_box 51 = .ok (.iadd, 1) := by decide +kernel
theorem dX0_box_52 : decode cX0_box 52 = .ok (.iconst 1, 1) := by decide +kernel
theorem dX0_box_53 : decode cX0_box 53 = .ok (.isub, 1) := by decide +kernel
theorem dX0_box_54 : decode cX0_box 54 = .ok (.iload_n 3, 1) := by decide +kernel
theorem dX0_box_55 : decode cX0_box 55 = .ok (.iload 6, 2) := by decide +kernel
theorem dX0_box_57 : decode cX0_box 57 = .ok (.iadd, 1) := by decide +kernel
theorem dX0_box_58 : decode cX0_box 58 = .ok (.iconst 1, 1) := by decide +kernel
theorem dX0_box_59 : decode cX0_box 59 = .ok (.isub, 1) := by decide +kernel
theorem dX0_box_60 : decode cX0_box 60 = .ok (.iload 4, 2) := by decide +kernel
theorem dX0_box_62 : decode cX0_box 62 = .ok (.iload 7, 2) := by decide +kernel
theorem dX0_box_64 : decode cX0_box 64 = .ok (.iadd, 1) := by decide +kernel
theorem dX0_box_65 : decode cX0_box 65 = .ok (.iconst 1, 1) := by decide +kernel
theorem dX0_box_66 : decode cX0_box 66 = .ok (.isub, 1) := by decide +kernel
theorem dX0_box_67 : decode cX0_box 67 = .ok (.invokevirtual 45, 3) := by decide +kernel
theorem dX0_box_70 : decode cX0_box 70 = .ok (.aload_n 0, 1) := by decide +kernel
theorem dX0_box_71 : decode cX0_box 71 = .ok (.iload_n 1, 1) := by decide +kernel
theorem dX0_box_72 : decode cX0_box 72 = .ok (.invokevirtual 49, 3) := by decide +kernel
theorem dX0_box_75 : decode cX0_box 75 = .ok (.ireturn, 1) := by decide +kernel
theorem dX0_join_0 : decode cX0_join 0 = .ok (.iload_n 1, 1) := by decide +kernel
theorem dX0_join_1 : decode cX0_join 1 = .ok (.invokestatic 37, 3) := by decide +kernel
theorem dX0_join_4 : decode cX0_join 4 = .ok (.ifCond .eq 28, 3) := by decide +kernel
theorem dX0_join_7 : decode cX0_join 7 = .ok (.iload_n 2, 1) := by decide +kernel
theorem dX0_join_8 : decode cX0_join 8 = .ok (.invokestatic 37, 3) := by decide +kernel
theorem dX0_join_11 : decode cX0_join 11 = .ok (.ifCond .eq 21, 3) := by decide +kernel
theorem dX0_join_14 : decode cX0_join 14 = .ok (.iload_n 3, 1) := by decide +kernel
theorem dX0_join_15 : decode cX0_join 15 = .ok (.invokestatic 37, 3) := by decide +kernel
theorem dX0_join_18 : decode cX0_join 18 = .ok (.ifCond .eq 14, 3) := by decide +kernel
theorem dX0_join_21 : decode cX0_join 21 = .ok (.iload 4, 2) := by decide +kernel
theorem dX0_join_23 : decode cX0_join 23 = .ok (.ifCond .lt 9, 3) := by decide +kernel
theorem dX0_join_26 : decode cX0_join 26 = .ok (.iload 4, 2) := by decide +kernel
theorem dX0_join_28 : decode cX0_join 28 = .ok (.iconst 3, 1) := by decide +kernel
theorem dX0_join_29 : decode cX0_join 29 = .ok (.if_icmp .le 5, 3) := by decide +kernel
theorem dX0_join_32 : decode cX0_join 32 = .ok (.iconst (-1), 1) := by decide +kernel
theorem dX0_join_33 : decode cX0_join 33 = .ok (.ireturn, 1) := by decide +kernel
theorem dX0_join_34 : decode cX0_join 34 = .ok (.aload_n 0, 1) := by decide +kernel
theorem dX0_join_35 : decode cX0_join 35 = .ok (.getfield 34, 3) := by decide +kernel
theorem dX0_join_38 : decode cX0_join 38 = .ok (.aload_n 0, 1) := by decide +kernel
theorem dX0_join_39 : decode cX0_join 39 = .ok (.getfield 11, 3) := by decide +kernel
theorem dX0_join_42 : decode cX0_join 42 = .ok (.iload_n 2, 1) := by decide +kernel
theorem dX0_join_43 : decode cX0_join 43 = .ok (.aaload, 1) := by decide +kernel
theorem dX0_join_44 : decode cX0_join 44 = .ok (.aload_n 0, 1) := by decide +kernel
theorem dX0_join_45 : decode cX0_join 45 = .ok (.getfield 11, 3) := by decide +kernel
theorem dX0_join_48 : decode cX0_join 48 = .ok (.iload_n 3, 1) := by decide +kernel
theorem dX0_join_49 : decode cX0_join 49 = .ok (.aaload, 1) := by decide +kernel
theorem dX0_join_50 : decode cX0_join 50 = .ok (.iload 4, 2) := by decide +kernel
theorem dX0_join_52 : decode cX0_join 52 = .ok (.invokevirtual 53, 3) := by decide +kernel
theorem dX0_join_55 : decode cX0_join 55 = .ok (.aload_n 0, 1) := by decide +kernel
theorem dX0_join_56 : decode cX0_join 56 = .ok (.iload_n 1, 1) := by decide +kernel
theorem dX0_join_57 : decode cX0_join 57 = .ok (.invokevirtual 49, 3) := by decide +kernel
theorem dX0_join_60 : decode cX0_join 60 = .ok (.ireturn, 1) := by decide +kernel
theorem dX0_turn_0 : decode cX0_turn 0 = .ok (.iload_n 1, 1) := by decide +kernel
theorem dX0_turn_1 : decode cX0_turn 1 = .ok (.invokestatic 37, 3) := by decide +kernel
theorem dX0_turn_4 : decode cX0_turn 4 = .ok (.ifCond .eq 10, 3) := by decide +kernel
theorem dX0_turn_7 : decode cX0_turn 7 = .ok (.iload_n 2, 1) := by decide +kernel
theorem dX0_turn_8 : decode cX0_turn 8 = .ok (.invokestatic 57, 3) := by decide +kernel
theorem dX0_turn_11 : decode cX0_turn 11 = .ok (.ifCond .ne 5, 3) := by decide +kernel
theorem dX0_turn_14 : decode cX0_turn 14 = .ok (.iconst (-1), 1) := by decide +kernel
theorem dX0_turn_15 : decode cX0_turn 15 = .ok (.ireturn, 1) := by decide +kernel
theorem dX0_turn_16 : decode cX0_turn 16 = .ok (.aload_n 0, 1) := by decide +kernel
theorem dX0_turn_17 : decode cX0_turn 17 = .ok (.getfield 34, 3) := by decide +kernel
theorem dX0_turn_20 : decode cX0_turn 20 = .ok (.aload_n 0, 1) := by decide +kernel
theorem dX0_turn_21 : decode cX0_turn 21 = .ok (.getfield 11, 3) := by decide +kernel
theorem dX0_turn_24 : decode cX0_turn 24 = .ok (.iload_n 1, 1) := by decide +kernel
theorem dX0_turn_25 : decode cX0_turn 25 = .ok (.aaload, 1) := by decide +kernel
theorem dX0_turn_26 : decode cX0_turn 26 = .ok (.iload_n 2, 1) := by decide +kernel
theorem dX0_turn_27 : decode cX0_turn 27 = .ok (.invokevirtual 60, 3) := by decide +kernel
theorem dX0_turn_30 : decode cX0_turn 30 = .ok (.aload_n 0, 1) := by decide +kernel
theorem dX0_turn_31 : decode cX0_turn 31 = .ok (.iload_n 1, 1) := by decide +kernel
theorem dX0_turn_32 : decode cX0_turn 32 = .ok (.invokevirtual 49, 3) := by decide +kernel
theorem dX0_turn_35 : decode cX0_turn 35 = .ok (.ireturn, 1) := by decide +kernel
theorem dX0_mirror_0 : decode cX0_mirror 0 = .ok (.iload_n 1, 1) := by decide +kernel
theorem dX0_mirror_1 : decode cX0_mirror 1 = .ok (.invokestatic 37, 3) := by decide +kernel
theorem dX0_mirror_4 : decode cX0_mirror 4 = .ok (.ifCond .eq 10, 3) := by decide +kernel
theorem dX0_mirror_7 : decode cX0_mirror 7 = .ok (.iload_n 2, 1) := by decide +kernel
theorem dX0_mirror_8 : decode cX0_mirror 8 = .ok (.invokestatic 57, 3) := by decide +kernel
theorem dX0_mirror_11 : decode cX0_mirror 11 = .ok (.ifCond .ne 5, 3) := by decide +kernel
theorem dX0_mirror_14 : decode cX0_mirror 14 = .ok (.iconst (-1), 1) := by decide +kernel
theorem dX0_mirror_15 : decode cX0_mirror 15 = .ok (.ireturn, 1) := by decide +kernel
theorem dX0_mirror_16 : decode cX0_mirror 16 = .ok (.aload_n 0, 1) := by decide +kernel
theorem dX0_mirror_17 : decode cX0_mirror 17 = .ok (.getfield 34, 3) := by decide +kernel
theorem dX0_mirror_20 : decode cX0_mirror 20 = .ok (.aload_n 0, 1) := by decide +kernel
theorem dX0_mirror_21 : decode cX0_mirror 21 = .ok (.getfield 11, 3) := by decide +kernel
theorem dX0_mirror_24 : decode cX0_mirror 24 = .ok (.iload_n 1, 1) := by decide +kernel
theorem dX0_mirror_25 : decode cX0_mirror 25 = .ok (.aaload, 1) := by decide +kernel
theorem dX0_mirror_26 : decode cX0_mirror 26 = .ok (.iload_n 2, 1) := by decide +kernel
theorem dX0_mirror_27 : decode cX0_mirror 27 = .ok (.invokevirtual 64, 3) := by decide +kernel
theorem dX0_mirror_30 : decode cX0_mirror 30 = .ok (.aload_n 0, 1) := by decide +kernel
theorem dX0_mirror_31 : decode cX0_mirror 31 = .ok (.iload_n 1, 1) := by decide +kernel
theorem dX0_mirror_32 : decode cX0_mirror 32 = .ok (.invokevirtual 49, 3) := by decide +kernel
theorem dX0_mirror_35 : decode cX0_mirror 35 = .ok (.ireturn, 1) := by decide +kernel
theorem dX0_shift_0 : decode cX0_shift 0 = .ok (.iload_n 1, 1) := by decide +kernel
theorem dX0_shift_1 : decode cX0_shift 1 = .ok (.invokestatic 37, 3) := by decide +kernel
theorem dX0_shift_4 : decode cX0_shift 4 = .ok (.ifCond .ne 5, 3) := by decide +kernel
theorem dX0_shift_7 : decode cX0_shift 7 = .ok (.iconst (-1), 1) := by decide +kernel
theorem dX0_shift_8 : decode cX0_shift 8 = .ok (.ireturn, 1) := by decide +kernel
theorem dX0_shift_9 : decode cX0_shift 9 = .ok (.aload_n 0, 1) := by decide +kernel
theorem dX0_shift_10 : decode cX0_shift 10 = .ok (.getfield 11, 3) := by decide +kernel
theorem dX0_shift_13 : decode cX0_shift 13 = .ok (.iload_n 1, 1) := by decide +kernel
theorem dX0_shift_14 : decode cX0_shift 14 = .ok (.aaload, 1) := by decide +kernel
theorem dX0_shift_15 : decode cX0_shift 15 = .ok (.astore 5, 2) := by decide +kernel
theorem dX0_shift_17 : decode cX0_shift 17 = .ok (.aload 5, 2) := by decide +kernel
theorem dX0_shift_19 : decode cX0_shift 19 = .ok (.iconst 0, 1) := by decide +kernel
theorem dX0_shift_20 : decode cX0_shift 20 = .ok (.iload_n 2, 1) := by decide +kernel
theorem dX0_shift_21 : decode cX0_shift 21 = .ok (.invokestatic 67, 3) := by decide +kernel
theorem dX0_shift_24 : decode cX0_shift 24 = .ok (.ifCond .ne 24, 3) := by decide +kernel
theorem dX0_shift_27 : decode cX0_shift 27 = .ok (.aload 5, 2) := by decide +kernel
theorem dX0_shift_29 : decode cX0_shift 29 = .ok (.iconst 1, 1) := by decide +kernel
theorem dX0_shift_30 : decode cX0_shift 30 = .ok (.iload_n 3, 1) := by decide +kernel
theorem dX0_shift_31 : decode cX0_shift 31 = .ok (.invokestatic 67, 3) := by decide +kernel
theorem dX0_shift_34 : decode cX0_shift 34 = .ok (.ifCond .ne 14, 3) := by decide +kernel
theorem dX0_shift_37 : decode cX0_shift 37 = .ok (.aload 5, 2) := by decide +kernel
theorem dX0_shift_39 : decode cX0_shift 39 = .ok (.iconst 2, 1) := by decide +kernel
theorem dX0_shift_40 : decode cX0_shift 40 = .ok (.iload 4, 2) := by decide +kernel
theorem dX0_shift_42 : decode cX0_shift 42 = .ok (.invokestatic 67, 3) := by decide +kernel
theorem dX0_shift_45 : decode cX0_shift 45 = .ok (.ifCond .eq 6, 3) := by decide +kernel
theorem dX0_shift_48 : decode cX0_shift 48 = .ok (.bipush (-2), 2) := by decide +kernel
theorem dX0_shift_50 : decode cX0_shift 50 = .ok (.ireturn, 1) := by decide +kernel
theorem dX0_shift_51 : decode cX0_shift 51 = .ok (.aload_n 0, 1) := by decide +kernel
theorem dX0_shift_52 : decode cX0_shift 52 = .ok (.getfield 34, 3) := by decide +kernel
theorem dX0_shift_55 : decode cX0_shift 55 = .ok (.aload 5, 2) := by decide +kernel
theorem dX0_shift_57 : decode cX0_shift 57 = .ok (.iload_n 2, 1) := by decide +kernel
theorem dX0_shift_58 : decode cX0_shift 58 = .ok (.iload_n 3, 1) := by decide +kernel
theorem dX0_shift_59 : decode cX0_shift 59 = .ok (.iload 4, 2) := by decide +kernel
theorem dX0_shift_61 : decode cX0_shift 61 = .ok (.invokevirtual 71, 3) := by decide +kernel
theorem dX0_shift_64 : decode cX0_shift 64 = .ok (.aload_n 0, 1) := by decide +kernel
theorem dX0_shift_65 : decode cX0_shift 65 = .ok (.iload_n 1, 1) := by decide +kernel
theorem dX0_shift_66 : decode cX0_shift 66 = .ok (.invokevirtual 49, 3) := by decide +kernel
theorem dX0_shift_69 : decode cX0_shift 69 = .ok (.ireturn, 1) := by decide +kernel
theorem dX0_sweep_0 : decode cX0_sweep 0 = .ok (.iload_n 1, 1) := by decide +kernel
theorem dX0_sweep_1 : decode cX0_sweep 1 = .ok (.invokestatic 37, 3) := by decide +kernel
theorem dX0_sweep_4 : decode cX0_sweep 4 = .ok (.ifCond .eq 25, 3) := by decide +kernel
theorem dX0_sweep_7 : decode cX0_sweep 7 = .ok (.iload_n 2, 1) := by decide +kernel
theorem dX0_sweep_8 : decode cX0_sweep 8 = .ok (.invokestatic 37, 3) := by decide +kernel
theorem dX0_sweep_11 : decode cX0_sweep 11 = .ok (.ifCond .eq 18, 3) := by decide +kernel
theorem dX0_sweep_14 : decode cX0_sweep 14 = .ok (.iload_n 3, 1) := by decide +kernel
theorem dX0_sweep_15 : decode cX0_sweep 15 = .ok (.invokestatic 57, 3) := by decide +kernel
theorem dX0_sweep_18 : decode cX0_sweep 18 = .ok (.ifCond .eq 11, 3) := by decide +kernel
theorem dX0_sweep_21 : decode cX0_sweep 21 = .ok (.iload 4, 2) := by decide +kernel
theorem dX0_sweep_23 : decode cX0_sweep 23 = .ok (.invokestatic 75, 3) := by decide +kernel
theorem dX0_sweep_26 : decode cX0_sweep 26 = .ok (.ifCond .ne 5, 3) := by decide +kernel
theorem dX0_sweep_29 : decode cX0_sweep 29 = .ok (.iconst (-1), 1) := by decide +kernel
theorem dX0_sweep_30 : decode cX0_sweep 30 = .ok (.ireturn, 1) := by decide +kernel
theorem dX0_sweep_31 : decode cX0_sweep 31 = .ok (.iload 5, 2) := by decide +kernel
theorem dX0_sweep_33 : decode cX0_sweep 33 = .ok (.iload 6, 2) := by decide +kernel
theorem dX0_sweep_35 : decode cX0_sweep 35 = .ok (.if_icmp .gt 19, 3) := by decide +kernel
theorem dX0_sweep_38 : decode cX0_sweep 38 = .ok (.iload 5, 2) := by decide +kernel
theorem dX0_sweep_40 : decode cX0_sweep 40 = .ok (.invokestatic 75, 3) := by decide +kernel
theorem dX0_sweep_43 : decode cX0_sweep 43 = .ok (.ifCond .eq 11, 3) := by decide +kernel
theorem dX0_sweep_46 : decode cX0_sweep 46 = .ok (.iload 6, 2) := by decide +kernel
theorem dX0_sweep_48 : decode cX0_sweep 48 = .ok (.invokestatic 75, 3) := by decide +kernel
theorem dX0_sweep_51 : decode cX0_sweep 51 = .ok (.ifCond .ne 6, 3) := by decide +kernel
theorem dX0_sweep_54 : decode cX0_sweep 54 = .ok (.bipush (-2), 2) := by decide +kernel
theorem dX0_sweep_56 : decode cX0_sweep 56 = .ok (.ireturn, 1) := by decide +kernel
theorem dX0_sweep_57 : decode cX0_sweep 57 = .ok (.aload_n 0, 1) := by decide +kernel
theorem dX0_sweep_58 : decode cX0_sweep 58 = .ok (.getfield 34, 3) := by decide +kernel
theorem dX0_sweep_61 : decode cX0_sweep 61 = .ok (.aload_n 0, 1) := by decide +kernel
theorem dX0_sweep_62 : decode cX0_sweep 62 = .ok (.getfield 11, 3) := by decide +kernel
theorem dX0_sweep_65 : decode cX0_sweep 65 = .ok (.iload_n 2, 1) := by decide +kernel
theorem dX0_sweep_66 : decode cX0_sweep 66 = .ok (.aaload, 1) := by decide +kernel
theorem dX0_sweep_67 : decode cX0_sweep 67 = .ok (.iload_n 3, 1) := by decide +kernel
theorem dX0_sweep_68 : decode cX0_sweep 68 = .ok (.iload 4, 2) := by decide +kernel
theorem dX0_sweep_70 : decode cX0_sweep 70 = .ok (.iload 5, 2) := by decide +kernel
theorem dX0_sweep_72 : decode cX0_sweep 72 = .ok (.iload 6, 2) := by decide +kernel
theorem dX0_sweep_74 : decode cX0_sweep 74 = .ok (.invokevirtual 78, 3) := by decide +kernel
theorem dX0_sweep_77 : decode cX0_sweep 77 = .ok (.aload_n 0, 1) := by decide +kernel
theorem dX0_sweep_78 : decode cX0_sweep 78 = .ok (.iload_n 1, 1) := by decide +kernel
theorem dX0_sweep_79 : decode cX0_sweep 79 = .ok (.invokevirtual 49, 3) := by decide +kernel
theorem dX0_sweep_82 : decode cX0_sweep 82 = .ok (.ireturn, 1) := by decide +kernel
theorem dX0_undo_0 : decode cX0_undo 0 = .ok (.aload_n 0, 1) := by decide +kernel
theorem dX0_undo_1 : decode cX0_undo 1 = .ok (.getfield 19, 3) := by decide +kernel
theorem dX0_undo_4 : decode cX0_undo 4 = .ok (.aload_n 0, 1) := by decide +kernel
theorem dX0_undo_5 : decode cX0_undo 5 = .ok (.getfield 11, 3) := by decide +kernel
theorem dX0_undo_8 : decode cX0_undo 8 = .ok (.invokevirtual 82, 3) := by decide +kernel
theorem dX0_undo_11 : decode cX0_undo 11 = .ok (.ireturn, 1) := by decide +kernel
theorem dX0_redo_0 : decode cX0_redo 0 = .ok (.aload_n 0, 1) := by decide +kernel
theorem dX0_redo_1 : decode cX0_redo 1 = .ok (.getfield 19, 3) := by decide +kernel
theorem dX0_redo_4 : decode cX0_redo 4 = .ok (.aload_n 0, 1) := by decide +kernel
theorem dX0_redo_5 : decode cX0_redo 5 = .ok (.getfield 11, 3) := by decide +kernel
theorem dX0_redo_8 : decode cX0_redo 8 = .ok (.invokevirtual 86, 3) := by decide +kernel
theorem dX0_redo_11 : decode cX0_redo 11 = .ok (.ireturn, 1) := by decide +kernel
theorem dX0_volume_0 : decode cX0_volume 0 = .ok (.iload_n 1, 1) := by decide +kernel
theorem dX0_volume_1 : decode cX0_volume 1 = .ok (.invokestatic 37, 3) := by decide +kernel
theorem dX0_volume_4 : decode cX0_volume 4 = .ok (.ifCond .eq 15, 3) := by decide +kernel
theorem dX0_volume_7 : decode cX0_volume 7 = .ok (.aload_n 0, 1) := by decide +kernel
theorem dX0_volume_8 : decode cX0_volume 8 = .ok (.getfield 11, 3) := by decide +kernel
theorem dX0_volume_11 : decode cX0_volume 11 = .ok (.iload_n 1, 1) := by decide +kernel
theorem dX0_volume_12 : decode cX0_volume 12 = .ok (.aaload, 1) := by decide +kernel
theorem dX0_volume_13 : decode cX0_volume 13 = .ok (.invokevirtual 89, 3) := by decide +kernel
theorem dX0_volume_16 : decode cX0_volume 16 = .ok (.goto 4, 3) := by decide +kernel
theorem dX0_volume_19 : decode cX0_volume 19 = .ok (.iconst (-1), 1) := by decide +kernel
theorem dX0_volume_20 : decode cX0_volume 20 = .ok (.ireturn, 1) := by decide +kernel
theorem dX0_sides_0 : decode cX0_sides 0 = .ok (.iload_n 1, 1) := by decide +kernel
theorem dX0_sides_1 : decode cX0_sides 1 = .ok (.invokestatic 37, 3) := by decide +kernel
theorem dX0_sides_4 : decode cX0_sides 4 = .ok (.ifCond .eq 15, 3) := by decide +kernel
theorem dX0_sides_7 : decode cX0_sides 7 = .ok (.aload_n 0, 1) := by decide +kernel
theorem dX0_sides_8 : decode cX0_sides 8 = .ok (.getfield 11, 3) := by decide +kernel
theorem dX0_sides_11 : decode cX0_sides 11 = .ok (.iload_n 1, 1) := by decide +kernel
theorem dX0_sides_12 : decode cX0_sides 12 = .ok (.aaload, 1) := by decide +kernel
theorem dX0_sides_13 : decode cX0_sides 13 = .ok (.invokevirtual 93, 3) := by decide +kernel
theorem dX0_sides_16 : decode cX0_sides 16 = .ok (.goto 4, 3) := by decide +kernel
theorem dX0_sides_19 : decode cX0_sides 19 = .ok (.iconst (-1), 1) := by decide +kernel
theorem dX0_sides_20 : decode cX0_sides 20 = .ok (.ireturn, 1) := by decide +kernel
theorem dX0_edges_0 : decode cX0_edges 0 = .ok (.iload_n 1, 1) := by decide +kernel
theorem dX0_edges_1 : decode cX0_edges 1 = .ok (.invokestatic 37, 3) := by decide +kernel
theorem dX0_edges_4 : decode cX0_edges 4 = .ok (.ifCond .eq 15, 3) := by decide +kernel
theorem dX0_edges_7 : decode cX0_edges 7 = .ok (.aload_n 0, 1) := by decide +kernel
theorem dX0_edges_8 : decode cX0_edges 8 = .ok (.getfield 11, 3) := by decide +kernel
theorem dX0_edges_11 : decode cX0_edges 11 = .ok (.iload_n 1, 1) := by decide +kernel
theorem dX0_edges_12 : decode cX0_edges 12 = .ok (.aaload, 1) := by decide +kernel
theorem dX0_edges_13 : decode cX0_edges 13 = .ok (.invokevirtual 96, 3) := by decide +kernel
theorem dX0_edges_16 : decode cX0_edges 16 = .ok (.goto 4, 3) := by decide +kernel
theorem dX0_edges_19 : decode cX0_edges 19 = .ok (.iconst (-1), 1) := by decide +kernel
theorem dX0_edges_20 : decode cX0_edges 20 = .ok (.ireturn, 1) := by decide +kernel
theorem dX0_pieces_0 : decode cX0_pieces 0 = .ok (.iload_n 1, 1) := by decide +kernel
theorem dX0_pieces_1 : decode cX0_pieces 1 = .ok (.invokestatic 37, 3) := by decide +kernel
theorem dX0_pieces_4 : decode cX0_pieces 4 = .ok (.ifCond .eq 19, 3) := by decide +kernel
theorem dX0_pieces_7 : decode cX0_pieces 7 = .ok (.aload_n 0, 1) := by decide +kernel
theorem dX0_pieces_8 : decode cX0_pieces 8 = .ok (.getfield 30, 3) := by decide +kernel
theorem dX0_pieces_11 : decode cX0_pieces 11 = .ok (.aload_n 0, 1) := by decide +kernel
theorem dX0_pieces_12 : decode cX0_pieces 12 = .ok (.getfield 11, 3) := by decide +kernel
theorem dX0_pieces_15 : decode cX0_pieces 15 = .ok (.iload_n 1, 1) := by decide +kernel
theorem dX0_pieces_16 : decode cX0_pieces 16 = .ok (.aaload, 1) := by decide +kernel
theorem dX0_pieces_17 : decode cX0_pieces 17 = .ok (.invokevirtual 99, 3) := by decide +kernel
theorem dX0_pieces_20 : decode cX0_pieces 20 = .ok (.goto 4, 3) := by decide +kernel
theorem dX0_pieces_23 : decode cX0_pieces 23 = .ok (.iconst (-1), 1) := by decide +kernel
theorem dX0_pieces_24 : decode cX0_pieces 24 = .ok (.ireturn, 1) := by decide +kernel
theorem dX0_hollows_0 : decode cX0_hollows 0 = .ok (.iload_n 1, 1) := by decide +kernel
theorem dX0_hollows_1 : decode cX0_hollows 1 = .ok (.invokestatic 37, 3) := by decide +kernel
theorem dX0_hollows_4 : decode cX0_hollows 4 = .ok (.ifCond .eq 19, 3) := by decide +kernel
theorem dX0_hollows_7 : decode cX0_hollows 7 = .ok (.aload_n 0, 1) := by decide +kernel
theorem dX0_hollows_8 : decode cX0_hollows 8 = .ok (.getfield 30, 3) := by decide +kernel
theorem dX0_hollows_11 : decode cX0_hollows 11 = .ok (.aload_n 0, 1) := by decide +kernel
theorem dX0_hollows_12 : decode cX0_hollows 12 = .ok (.getfield 11, 3) := by decide +kernel
theorem dX0_hollows_15 : decode cX0_hollows 15 = .ok (.iload_n 1, 1) := by decide +kernel
theorem dX0_hollows_16 : decode cX0_hollows 16 = .ok (.aaload, 1) := by decide +kernel
theorem dX0_hollows_17 : decode cX0_hollows 17 = .ok (.invokevirtual 103, 3) := by decide +kernel
theorem dX0_hollows_20 : decode cX0_hollows 20 = .ok (.goto 4, 3) := by decide +kernel
theorem dX0_hollows_23 : decode cX0_hollows 23 = .ok (.iconst (-1), 1) := by decide +kernel
theorem dX0_hollows_24 : decode cX0_hollows 24 = .ok (.ireturn, 1) := by decide +kernel
theorem dX0_moment_0 : decode cX0_moment 0 = .ok (.iload_n 1, 1) := by decide +kernel
theorem dX0_moment_1 : decode cX0_moment 1 = .ok (.invokestatic 37, 3) := by decide +kernel
theorem dX0_moment_4 : decode cX0_moment 4 = .ok (.ifCond .eq 10, 3) := by decide +kernel
theorem dX0_moment_7 : decode cX0_moment 7 = .ok (.iload_n 2, 1) := by decide +kernel
theorem dX0_moment_8 : decode cX0_moment 8 = .ok (.invokestatic 57, 3) := by decide +kernel
theorem dX0_moment_11 : decode cX0_moment 11 = .ok (.ifCond .ne 5, 3) := by decide +kernel
theorem dX0_moment_14 : decode cX0_moment 14 = .ok (.iconst (-1), 1) := by decide +kernel
theorem dX0_moment_15 : decode cX0_moment 15 = .ok (.ireturn, 1) := by decide +kernel
theorem dX0_moment_16 : decode cX0_moment 16 = .ok (.iconst 0, 1) := by decide +kernel
theorem dX0_moment_17 : decode cX0_moment 17 = .ok (.istore_n 3, 1) := by decide +kernel
theorem dX0_moment_18 : decode cX0_moment 18 = .ok (.iconst 0, 1) := by decide +kernel
theorem dX0_moment_19 : decode cX0_moment 19 = .ok (.istore 4, 2) := by decide +kernel
theorem dX0_moment_21 : decode cX0_moment 21 = .ok (.iload 4, 2) := by decide +kernel
theorem dX0_moment_23 : decode cX0_moment 23 = .ok (.bipush 12, 2) := by decide +kernel
theorem dX0_moment_25 : decode cX0_moment 25 = .ok (.if_icmp .ge 31, 3) := by decide +kernel
theorem dX0_moment_28 : decode cX0_moment 28 = .ok (.iload_n 3, 1) := by decide +kernel
theorem dX0_moment_29 : decode cX0_moment 29 = .ok (.iconst 2, 1) := by decide +kernel
theorem dX0_moment_30 : decode cX0_moment 30 = .ok (.iload 4, 2) := by decide +kernel
theorem dX0_moment_32 : decode cX0_moment 32 = .ok (.imul, 1) := by decide +kernel
theorem dX0_moment_33 : decode cX0_moment 33 = .ok (.iconst 1, 1) := by decide +kernel
theorem dX0_moment_34 : decode cX0_moment 34 = .ok (.iadd, 1) := by decide +kernel
theorem dX0_moment_35 : decode cX0_moment 35 = .ok (.aload_n 0, 1) := by decide +kernel
theorem dX0_moment_36 : decode cX0_moment 36 = .ok (.getfield 11, 3) := by decide +kernel
theorem dX0_moment_39 : decode cX0_moment 39 = .ok (.iload_n 1, 1) := by decide +kernel
theorem dX0_moment_40 : decode cX0_moment 40 = .ok (.aaload, 1) := by decide +kernel
theorem dX0_moment_41 : decode cX0_moment 41 = .ok (.iload_n 2, 1) := by decide +kernel
theorem dX0_moment_42 : decode cX0_moment 42 = .ok (.iload 4, 2) := by decide +kernel
theorem dX0_moment_44 : decode cX0_moment 44 = .ok (.invokevirtual 106, 3) := by decide +kernel
theorem dX0_moment_47 : decode cX0_moment 47 = .ok (.imul, 1) := by decide +kernel
theorem dX0_moment_48 : decode cX0_moment 48 = .ok (.iadd, 1) := by decide +kernel
theorem dX0_moment_49 : decode cX0_moment 49 = .ok (.istore_n 3, 1) := by decide +kernel
theorem dX0_moment_50 : decode cX0_moment 50 = .ok (.iinc 4 1, 3) := by decide +kernel
theorem dX0_moment_53 : decode cX0_moment 53 = .ok (.goto (-32), 3) := by decide +kernel
theorem dX0_moment_56 : decode cX0_moment 56 = .ok (.iload_n 3, 1) := by decide +kernel
theorem dX0_moment_57 : decode cX0_moment 57 = .ok (.ireturn, 1) := by decide +kernel
theorem dX0_extent_0 : decode cX0_extent 0 = .ok (.iload_n 1, 1) := by decide +kernel
theorem dX0_extent_1 : decode cX0_extent 1 = .ok (.invokestatic 37, 3) := by decide +kernel
theorem dX0_extent_4 : decode cX0_extent 4 = .ok (.ifCond .eq 10, 3) := by decide +kernel
theorem dX0_extent_7 : decode cX0_extent 7 = .ok (.iload_n 2, 1) := by decide +kernel
theorem dX0_extent_8 : decode cX0_extent 8 = .ok (.invokestatic 57, 3) := by decide +kernel
theorem dX0_extent_11 : decode cX0_extent 11 = .ok (.ifCond .ne 5, 3) := by decide +kernel
theorem dX0_extent_14 : decode cX0_extent 14 = .ok (.iconst (-1), 1) := by decide +kernel
theorem dX0_extent_15 : decode cX0_extent 15 = .ok (.ireturn, 1) := by decide +kernel
theorem dX0_extent_16 : decode cX0_extent 16 = .ok (.iload_n 3, 1) := by decide +kernel
theorem dX0_extent_17 : decode cX0_extent 17 = .ok (.ifCond .ne 14, 3) := by decide +kernel
theorem dX0_extent_20 : decode cX0_extent 20 = .ok (.aload_n 0, 1) := by decide +kernel
theorem dX0_extent_21 : decode cX0_extent 21 = .ok (.getfield 11, 3) := by decide +kernel
theorem dX0_extent_24 : decode cX0_extent 24 = .ok (.iload_n 1, 1) := by decide +kernel
theorem dX0_extent_25 : decode cX0_extent 25 = .ok (.aaload, 1) := by decide +kernel
theorem dX0_extent_26 : decode cX0_extent 26 = .ok (.iload_n 2, 1) := by decide +kernel
theorem dX0_extent_27 : decode cX0_extent 27 = .ok (.invokevirtual 110, 3) := by decide +kernel
theorem dX0_extent_30 : decode cX0_extent 30 = .ok (.ireturn, 1) := by decide +kernel
theorem dX0_extent_31 : decode cX0_extent 31 = .ok (.iload_n 3, 1) := by decide +kernel
theorem dX0_extent_32 : decode cX0_extent 32 = .ok (.iconst 1, 1) := by decide +kernel
theorem dX0_extent_33 : decode cX0_extent 33 = .ok (.if_icmp .ne 16, 3) := by decide +kernel
theorem dX0_extent_36 : decode cX0_extent 36 = .ok (.aload_n 0, 1) := by decide +kernel
theorem dX0_extent_37 : decode cX0_extent 37 = .ok (.getfield 11, 3) := by decide +kernel
theorem dX0_extent_40 : decode cX0_extent 40 = .ok (.iload_n 1, 1) := by decide +kernel
theorem dX0_extent_41 : decode cX0_extent 41 = .ok (.aaload, 1) := by decide +kernel
theorem dX0_extent_42 : decode cX0_extent 42 = .ok (.iload_n 2, 1) := by decide +kernel
theorem dX0_extent_43 : decode cX0_extent 43 = .ok (.invokevirtual 113, 3) := by decide +kernel
theorem dX0_extent_46 : decode cX0_extent 46 = .ok (.goto 4, 3) := by decide +kernel
theorem dX0_extent_49 : decode cX0_extent 49 = .ok (.iconst (-1), 1) := by decide +kernel
theorem dX0_extent_50 : decode cX0_extent 50 = .ok (.ireturn, 1) := by decide +kernel
theorem dX0_inside_0 : decode cX0_inside 0 = .ok (.iload_n 1, 1) := by decide +kernel
theorem dX0_inside_1 : decode cX0_inside 1 = .ok (.invokestatic 37, 3) := by decide +kernel
theorem dX0_inside_4 : decode cX0_inside 4 = .ok (.ifCond .eq 25, 3) := by decide +kernel
theorem dX0_inside_7 : decode cX0_inside 7 = .ok (.iload_n 2, 1) := by decide +kernel
theorem dX0_inside_8 : decode cX0_inside 8 = .ok (.invokestatic 116, 3) := by decide +kernel
theorem dX0_inside_11 : decode cX0_inside 11 = .ok (.ifCond .eq 18, 3) := by decide +kernel
theorem dX0_inside_14 : decode cX0_inside 14 = .ok (.iload_n 3, 1) := by decide +kernel
theorem dX0_inside_15 : decode cX0_inside 15 = .ok (.invokestatic 116, 3) := by decide +kernel
theorem dX0_inside_18 : decode cX0_inside 18 = .ok (.ifCond .eq 11, 3) := by decide +kernel
theorem dX0_inside_21 : decode cX0_inside 21 = .ok (.iload 4, 2) := by decide +kernel
theorem dX0_inside_23 : decode cX0_inside 23 = .ok (.invokestatic 116, 3) := by decide +kernel
theorem dX0_inside_26 : decode cX0_inside 26 = .ok (.ifCond .ne 6, 3) := by decide +kernel
theorem dX0_inside_29 : decode cX0_inside 29 = .ok (.bipush (-9), 2) := by decide +kernel
theorem dX0_inside_31 : decode cX0_inside 31 = .ok (.ireturn, 1) := by decide +kernel
theorem dX0_inside_32 : decode cX0_inside 32 = .ok (.aload_n 0, 1) := by decide +kernel
theorem dX0_inside_33 : decode cX0_inside 33 = .ok (.getfield 11, 3) := by decide +kernel
theorem dX0_inside_36 : decode cX0_inside 36 = .ok (.iload_n 1, 1) := by decide +kernel
theorem dX0_inside_37 : decode cX0_inside 37 = .ok (.aaload, 1) := by decide +kernel
theorem dX0_inside_38 : decode cX0_inside 38 = .ok (.iload_n 2, 1) := by decide +kernel
theorem dX0_inside_39 : decode cX0_inside 39 = .ok (.iload_n 3, 1) := by decide +kernel
theorem dX0_inside_40 : decode cX0_inside 40 = .ok (.iload 4, 2) := by decide +kernel
theorem dX0_inside_42 : decode cX0_inside 42 = .ok (.invokevirtual 119, 3) := by decide +kernel
theorem dX0_inside_45 : decode cX0_inside 45 = .ok (.istore 5, 2) := by decide +kernel
theorem dX0_inside_47 : decode cX0_inside 47 = .ok (.iload 5, 2) := by decide +kernel
theorem dX0_inside_49 : decode cX0_inside 49 = .ok (.ifCond .ne 5, 3) := by decide +kernel
theorem dX0_inside_52 : decode cX0_inside 52 = .ok (.iconst (-1), 1) := by decide +kernel
theorem dX0_inside_53 : decode cX0_inside 53 = .ok (.ireturn, 1) := by decide +kernel
theorem dX0_inside_54 : decode cX0_inside 54 = .ok (.iload 5, 2) := by decide +kernel
theorem dX0_inside_56 : decode cX0_inside 56 = .ok (.bipush 8, 2) := by decide +kernel
theorem dX0_inside_58 : decode cX0_inside 58 = .ok (.if_icmp .ne 7, 3) := by decide +kernel
theorem dX0_inside_61 : decode cX0_inside 61 = .ok (.iconst 1, 1) := by decide +kernel
theorem dX0_inside_62 : decode cX0_inside 62 = .ok (.goto 4, 3) := by decide +kernel
theorem dX0_inside_65 : decode cX0_inside 65 = .ok (.iconst 0, 1) := by decide +kernel
theorem dX0_inside_66 : decode cX0_inside 66 = .ok (.ireturn, 1) := by decide +kernel
theorem dX0_section_0 : decode cX0_section 0 = .ok (.iload_n 1, 1) := by decide +kernel
theorem dX0_section_1 : decode cX0_section 1 = .ok (.invokestatic 37, 3) := by decide +kernel
theorem dX0_section_4 : decode cX0_section 4 = .ok (.ifCond .eq 17, 3) := by decide +kernel
theorem dX0_section_7 : decode cX0_section 7 = .ok (.iload_n 2, 1) := by decide +kernel
theorem dX0_section_8 : decode cX0_section 8 = .ok (.invokestatic 57, 3) := by decide +kernel
theorem dX0_section_11 : decode cX0_section 11 = .ok (.ifCond .eq 10, 3) := by decide +kernel
theorem dX0_section_14 : decode cX0_section 14 = .ok (.iload_n 3, 1) := by decide +kernel
theorem dX0_section_15 : decode cX0_section 15 = .ok (.invokestatic 75, 3) := by decide +kernel
theorem dX0_section_18 : decode cX0_section 18 = .ok (.ifCond .ne 5, 3) := by decide +kernel
theorem dX0_section_21 : decode cX0_section 21 = .ok (.iconst (-1), 1) := by decide +kernel
theorem dX0_section_22 : decode cX0_section 22 = .ok (.ireturn, 1) := by decide +kernel
theorem dX0_section_23 : decode cX0_section 23 = .ok (.aload_n 0, 1) := by decide +kernel
theorem dX0_section_24 : decode cX0_section 24 = .ok (.getfield 11, 3) := by decide +kernel
theorem dX0_section_27 : decode cX0_section 27 = .ok (.iload_n 1, 1) := by decide +kernel
theorem dX0_section_28 : decode cX0_section 28 = .ok (.aaload, 1) := by decide +kernel
theorem dX0_section_29 : decode cX0_section 29 = .ok (.iload_n 2, 1) := by decide +kernel
theorem dX0_section_30 : decode cX0_section 30 = .ok (.iload_n 3, 1) := by decide +kernel
theorem dX0_section_31 : decode cX0_section 31 = .ok (.invokevirtual 106, 3) := by decide +kernel
theorem dX0_section_34 : decode cX0_section 34 = .ok (.ireturn, 1) := by decide +kernel
theorem dX0_same_0 : decode cX0_same 0 = .ok (.iload_n 1, 1) := by decide +kernel
theorem dX0_same_1 : decode cX0_same 1 = .ok (.invokestatic 37, 3) := by decide +kernel
theorem dX0_same_4 : decode cX0_same 4 = .ok (.ifCond .eq 32, 3) := by decide +kernel
theorem dX0_same_7 : decode cX0_same 7 = .ok (.iload_n 2, 1) := by decide +kernel
theorem dX0_same_8 : decode cX0_same 8 = .ok (.invokestatic 37, 3) := by decide +kernel
theorem dX0_same_11 : decode cX0_same 11 = .ok (.ifCond .eq 25, 3) := by decide +kernel
theorem dX0_same_14 : decode cX0_same 14 = .ok (.aload_n 0, 1) := by decide +kernel
theorem dX0_same_15 : decode cX0_same 15 = .ok (.getfield 11, 3) := by decide +kernel
theorem dX0_same_18 : decode cX0_same 18 = .ok (.iload_n 1, 1) := by decide +kernel
theorem dX0_same_19 : decode cX0_same 19 = .ok (.aaload, 1) := by decide +kernel
theorem dX0_same_20 : decode cX0_same 20 = .ok (.aload_n 0, 1) := by decide +kernel
theorem dX0_same_21 : decode cX0_same 21 = .ok (.getfield 11, 3) := by decide +kernel
theorem dX0_same_24 : decode cX0_same 24 = .ok (.iload_n 2, 1) := by decide +kernel
theorem dX0_same_25 : decode cX0_same 25 = .ok (.aaload, 1) := by decide +kernel
theorem dX0_same_26 : decode cX0_same 26 = .ok (.invokevirtual 123, 3) := by decide +kernel
theorem dX0_same_29 : decode cX0_same 29 = .ok (.ifCond .eq 7, 3) := by decide +kernel
theorem dX0_same_32 : decode cX0_same 32 = .ok (.iconst 1, 1) := by decide +kernel
theorem dX0_same_33 : decode cX0_same 33 = .ok (.goto 4, 3) := by decide +kernel
theorem dX0_same_36 : decode cX0_same 36 = .ok (.iconst 0, 1) := by decide +kernel
theorem dX0_same_37 : decode cX0_same 37 = .ok (.ireturn, 1) := by decide +kernel
theorem dX0_depth_0 : decode cX0_depth 0 = .ok (.iload_n 1, 1) := by decide +kernel
theorem dX0_depth_1 : decode cX0_depth 1 = .ok (.invokestatic 37, 3) := by decide +kernel
theorem dX0_depth_4 : decode cX0_depth 4 = .ok (.ifCond .eq 26, 3) := by decide +kernel
theorem dX0_depth_7 : decode cX0_depth 7 = .ok (.iload_n 2, 1) := by decide +kernel
theorem dX0_depth_8 : decode cX0_depth 8 = .ok (.invokestatic 57, 3) := by decide +kernel
theorem dX0_depth_11 : decode cX0_depth 11 = .ok (.ifCond .eq 19, 3) := by decide +kernel
theorem dX0_depth_14 : decode cX0_depth 14 = .ok (.iload 4, 2) := by decide +kernel
theorem dX0_depth_16 : decode cX0_depth 16 = .ok (.invokestatic 75, 3) := by decide +kernel
theorem dX0_depth_19 : decode cX0_depth 19 = .ok (.ifCond .eq 11, 3) := by decide +kernel
theorem dX0_depth_22 : decode cX0_depth 22 = .ok (.iload 5, 2) := by decide +kernel
theorem dX0_depth_24 : decode cX0_depth 24 = .ok (.invokestatic 75, 3) := by decide +kernel
theorem dX0_depth_27 : decode cX0_depth 27 = .ok (.ifCond .ne 5, 3) := by decide +kernel
theorem dX0_depth_30 : decode cX0_depth 30 = .ok (.iconst (-1), 1) := by decide +kernel
theorem dX0_depth_31 : decode cX0_depth 31 = .ok (.ireturn, 1) := by decide +kernel
theorem dX0_depth_32 : decode cX0_depth 32 = .ok (.aload_n 0, 1) := by decide +kernel
theorem dX0_depth_33 : decode cX0_depth 33 = .ok (.getfield 11, 3) := by decide +kernel
theorem dX0_depth_36 : decode cX0_depth 36 = .ok (.iload_n 1, 1) := by decide +kernel
theorem dX0_depth_37 : decode cX0_depth 37 = .ok (.aaload, 1) := by decide +kernel
theorem dX0_depth_38 : decode cX0_depth 38 = .ok (.iload_n 2, 1) := by decide +kernel
theorem dX0_depth_39 : decode cX0_depth 39 = .ok (.iload 4, 2) := by decide +kernel
theorem dX0_depth_41 : decode cX0_depth 41 = .ok (.iload 5, 2) := by decide +kernel
theorem dX0_depth_43 : decode cX0_depth 43 = .ok (.invokevirtual 127, 3) := by decide +kernel
theorem dX0_depth_46 : decode cX0_depth 46 = .ok (.iload_n 3, 1) := by decide +kernel
theorem dX0_depth_47 : decode cX0_depth 47 = .ok (.invokestatic 130, 3) := by decide +kernel
theorem dX0_depth_50 : decode cX0_depth 50 = .ok (.ireturn, 1) := by decide +kernel
theorem dX0_stroke_0 : decode cX0_stroke 0 = .ok (.iload_n 1, 1) := by decide +kernel
theorem dX0_stroke_1 : decode cX0_stroke 1 = .ok (.invokestatic 37, 3) := by decide +kernel
theorem dX0_stroke_4 : decode cX0_stroke 4 = .ok (.ifCond .eq 22, 3) := by decide +kernel
theorem dX0_stroke_7 : decode cX0_stroke 7 = .ok (.iload_n 2, 1) := by decide +kernel
theorem dX0_stroke_8 : decode cX0_stroke 8 = .ok (.invokestatic 57, 3) := by decide +kernel
theorem dX0_stroke_11 : decode cX0_stroke 11 = .ok (.ifCond .eq 15, 3) := by decide +kernel
theorem dX0_stroke_14 : decode cX0_stroke 14 = .ok (.iload 4, 2) := by decide +kernel
theorem dX0_stroke_16 : decode cX0_stroke 16 = .ok (.iload 5, 2) := by decide +kernel
theorem dX0_stroke_18 : decode cX0_stroke 18 = .ok (.iload 6, 2) := by decide +kernel
theorem dX0_stroke_20 : decode cX0_stroke 20 = .ok (.invokestatic 134, 3) := by decide +kernel
theorem dX0_stroke_23 : decode cX0_stroke 23 = .ok (.ifCond .ne 5, 3) := by decide +kernel
theorem dX0_stroke_26 : decode cX0_stroke 26 = .ok (.iconst (-1), 1) := by decide +kernel
theorem dX0_stroke_27 : decode cX0_stroke 27 = .ok (.ireturn, 1) := by decide +kernel
theorem dX0_stroke_28 : decode cX0_stroke 28 = .ok (.aload_n 0, 1) := by decide +kernel
theorem dX0_stroke_29 : decode cX0_stroke 29 = .ok (.getfield 11, 3) := by decide +kernel
theorem dX0_stroke_32 : decode cX0_stroke 32 = .ok (.iload_n 1, 1) := by decide +kernel
theorem dX0_stroke_33 : decode cX0_stroke 33 = .ok (.aaload, 1) := by decide +kernel
theorem dX0_stroke_34 : decode cX0_stroke 34 = .ok (.iload_n 2, 1) := by decide +kernel
theorem dX0_stroke_35 : decode cX0_stroke 35 = .ok (.iload 4, 2) := by decide +kernel
theorem dX0_stroke_37 : decode cX0_stroke 37 = .ok (.iconst 1, 1) := by decide +kernel
theorem dX0_stroke_38 : decode cX0_stroke 38 = .ok (.isub, 1) := by decide +kernel
theorem dX0_stroke_39 : decode cX0_stroke 39 = .ok (.iload 6, 2) := by decide +kernel
theorem dX0_stroke_41 : decode cX0_stroke 41 = .ok (.iadd, 1) := by decide +kernel
theorem dX0_stroke_42 : decode cX0_stroke 42 = .ok (.iload 5, 2) := by decide +kernel
theorem dX0_stroke_44 : decode cX0_stroke 44 = .ok (.iload 6, 2) := by decide +kernel
theorem dX0_stroke_46 : decode cX0_stroke 46 = .ok (.isub, 1) := by decide +kernel
theorem dX0_stroke_47 : decode cX0_stroke 47 = .ok (.invokevirtual 127, 3) := by decide +kernel
theorem dX0_stroke_50 : decode cX0_stroke 50 = .ok (.istore 7, 2) := by decide +kernel
theorem dX0_stroke_52 : decode cX0_stroke 52 = .ok (.iload 7, 2) := by decide +kernel
theorem dX0_stroke_54 : decode cX0_stroke 54 = .ok (.aload_n 0, 1) := by decide +kernel
theorem dX0_stroke_55 : decode cX0_stroke 55 = .ok (.getfield 11, 3) := by decide +kernel
theorem dX0_stroke_58 : decode cX0_stroke 58 = .ok (.iload_n 1, 1) := by decide +kernel
theorem dX0_stroke_59 : decode cX0_stroke 59 = .ok (.aaload, 1) := by decide +kernel
theorem dX0_stroke_60 : decode cX0_stroke 60 = .ok (.iload_n 2, 1) := by decide +kernel
theorem dX0_stroke_61 : decode cX0_stroke 61 = .ok (.iload 4, 2) := by decide +kernel
theorem dX0_stroke_63 : decode cX0_stroke 63 = .ok (.iload 5, 2) := by decide +kernel
theorem dX0_stroke_65 : decode cX0_stroke 65 = .ok (.invokevirtual 127, 3) := by decide +kernel
theorem dX0_stroke_68 : decode cX0_stroke 68 = .ok (.iload_n 3, 1) := by decide +kernel
theorem dX0_stroke_69 : decode cX0_stroke 69 = .ok (.invokestatic 138, 3) := by decide +kernel
theorem dX0_stroke_72 : decode cX0_stroke 72 = .ok (.ireturn, 1) := by decide +kernel
theorem dX0_strokes_0 : decode cX0_strokes 0 = .ok (.iload_n 1, 1) := by decide +kernel
theorem dX0_strokes_1 : decode cX0_strokes 1 = .ok (.invokestatic 37, 3) := by decide +kernel
theorem dX0_strokes_4 : decode cX0_strokes 4 = .ok (.ifCond .eq 22, 3) := by decide +kernel
theorem dX0_strokes_7 : decode cX0_strokes 7 = .ok (.iload_n 2, 1) := by decide +kernel
theorem dX0_strokes_8 : decode cX0_strokes 8 = .ok (.invokestatic 57, 3) := by decide +kernel
theorem dX0_strokes_11 : decode cX0_strokes 11 = .ok (.ifCond .eq 15, 3) := by decide +kernel
theorem dX0_strokes_14 : decode cX0_strokes 14 = .ok (.iload 4, 2) := by decide +kernel
theorem dX0_strokes_16 : decode cX0_strokes 16 = .ok (.iconst 1, 1) := by decide +kernel
theorem dX0_strokes_17 : decode cX0_strokes 17 = .ok (.if_icmp .eq 11, 3) := by decide +kernel
theorem dX0_strokes_20 : decode cX0_strokes 20 = .ok (.iload 4, 2) := by decide +kernel
theorem dX0_strokes_22 : decode cX0_strokes 22 = .ok (.iconst 2, 1) := by decide +kernel
theorem dX0_strokes_23 : decode cX0_strokes 23 = .ok (.if_icmp .eq 5, 3) := by decide +kernel
theorem dX0_strokes_26 : decode cX0_strokes 26 = .ok (.iconst (-1), 1) := by decide +kernel
theorem dX0_strokes_27 : decode cX0_strokes 27 = .ok (.ireturn, 1) := by decide +kernel
theorem dX0_strokes_28 : decode cX0_strokes 28 = .ok (.aload_n 0, 1) := by decide +kernel
theorem dX0_strokes_29 : decode cX0_strokes 29 = .ok (.getfield 23, 3) := by decide +kernel
theorem dX0_strokes_32 : decode cX0_strokes 32 = .ok (.aload_n 0, 1) := by decide +kernel
theorem dX0_strokes_33 : decode cX0_strokes 33 = .ok (.getfield 11, 3) := by decide +kernel
theorem dX0_strokes_36 : decode cX0_strokes 36 = .ok (.iload_n 1, 1) := by decide +kernel
theorem dX0_strokes_37 : decode cX0_strokes 37 = .ok (.aaload, 1) := by decide +kernel
theorem dX0_strokes_38 : decode cX0_strokes 38 = .ok (.iload_n 2, 1) := by decide +kernel
theorem dX0_strokes_39 : decode cX0_strokes 39 = .ok (.invokevirtual 142, 3) := by decide +kernel
theorem dX0_strokes_42 : decode cX0_strokes 42 = .ok (.iconst 0, 1) := by decide +kernel
theorem dX0_strokes_43 : decode cX0_strokes 43 = .ok (.istore 5, 2) := by decide +kernel
theorem dX0_strokes_45 : decode cX0_strokes 45 = .ok (.iconst 0, 1) := by decide +kernel
theorem dX0_strokes_46 : decode cX0_strokes 46 = .ok (.istore 6, 2) := by decide +kernel
theorem dX0_strokes_48 : decode cX0_strokes 48 = .ok (.iload 6, 2) := by decide +kernel
theorem dX0_strokes_50 : decode cX0_strokes 50 = .ok (.bipush 12, 2) := by decide +kernel
theorem dX0_strokes_52 : decode cX0_strokes 52 = .ok (.if_icmp .gt 92, 3) := by decide +kernel
theorem dX0_strokes_55 : decode cX0_strokes 55 = .ok (.iconst 0, 1) := by decide +kernel
theorem dX0_strokes_56 : decode cX0_strokes 56 = .ok (.istore 7, 2) := by decide +kernel
theorem dX0_strokes_58 : decode cX0_strokes 58 = .ok (.iload 7, 2) := by decide +kernel
theorem dX0_strokes_60 : decode cX0_strokes 60 = .ok (.bipush 12, 2) := by decide +kernel
theorem dX0_strokes_62 : decode cX0_strokes 62 = .ok (.if_icmp .gt 76, 3) := by decide +kernel
theorem dX0_strokes_65 : decode cX0_strokes 65 = .ok (.aload_n 0, 1) := by decide +kernel
theorem dX0_strokes_66 : decode cX0_strokes 66 = .ok (.getfield 23, 3) := by decide +kernel
theorem dX0_strokes_69 : decode cX0_strokes 69 = .ok (.iload 6, 2) := by decide +kernel
theorem dX0_strokes_71 : decode cX0_strokes 71 = .ok (.iload 7, 2) := by decide +kernel
theorem dX0_strokes_73 : decode cX0_strokes 73 = .ok (.invokevirtual 145, 3) := by decide +kernel
theorem dX0_strokes_76 : decode cX0_strokes 76 = .ok (.istore 8, 2) := by decide +kernel
theorem dX0_strokes_78 : decode cX0_strokes 78 = .ok (.aload_n 0, 1) := by decide +kernel
theorem dX0_strokes_79 : decode cX0_strokes 79 = .ok (.getfield 23, 3) := by decide +kernel
theorem dX0_strokes_82 : decode cX0_strokes 82 = .ok (.iload 6, 2) := by decide +kernel
theorem dX0_strokes_84 : decode cX0_strokes 84 = .ok (.iconst 1, 1) := by decide +kernel
theorem dX0_strokes_85 : decode cX0_strokes 85 = .ok (.isub, 1) := by decide +kernel
theorem dX0_strokes_86 : decode cX0_strokes 86 = .ok (.iload 7, 2) := by decide +kernel
theorem dX0_strokes_88 : decode cX0_strokes 88 = .ok (.invokevirtual 145, 3) := by decide +kernel
theorem dX0_strokes_91 : decode cX0_strokes 91 = .ok (.iload 8, 2) := by decide +kernel
theorem dX0_strokes_93 : decode cX0_strokes 93 = .ok (.iload_n 3, 1) := by decide +kernel
theorem dX0_strokes_94 : decode cX0_strokes 94 = .ok (.invokestatic 138, 3) := by decide +kernel
theorem dX0_strokes_97 : decode cX0_strokes 97 = .ok (.iload 4, 2) := by decide +kernel
theorem dX0_strokes_99 : decode cX0_strokes 99 = .ok (.if_icmp .ne 6, 3) := by decide +kernel
theorem dX0_strokes_102 : decode cX0_strokes 102 = .ok (.iinc 5 1, 3) := by decide +kernel
theorem dX0_strokes_105 : decode cX0_strokes 105 = .ok (.aload_n 0, 1) := by decide +kernel
theorem dX0_strokes_106 : decode cX0_strokes 106 = .ok (.getfield 23, 3) := by decide +kernel
theorem dX0_strokes_109 : decode cX0_strokes 109 = .ok (.iload 6, 2) := by decide +kernel
theorem dX0_strokes_111 : decode cX0_strokes 111 = .ok (.iload 7, 2) := by decide +kernel
theorem dX0_strokes_113 : decode cX0_strokes 113 = .ok (.iconst 1, 1) := by decide +kernel
theorem dX0_strokes_114 : decode cX0_strokes 114 = .ok (.isub, 1) := by decide +kernel
theorem dX0_strokes_115 : decode cX0_strokes 115 = .ok (.invokevirtual 145, 3) := by decide +kernel
theorem dX0_strokes_118 : decode cX0_strokes 118 = .ok (.iload 8, 2) := by decide +kernel
theorem dX0_strokes_120 : decode cX0_strokes 120 = .ok (.iload_n 3, 1) := by decide +kernel
theorem dX0_strokes_121 : decode cX0_strokes 121 = .ok (.invokestatic 138, 3) := by decide +kernel
theorem dX0_strokes_124 : decode cX0_strokes 124 = .ok (.iload 4, 2) := by decide +kernel
theorem dX0_strokes_126 : decode cX0_strokes 126 = .ok (.if_icmp .ne 6, 3) := by decide +kernel
theorem dX0_strokes_129 : decode cX0_strokes 129 = .ok (.iinc 5 1, 3) := by decide +kernel
theorem dX0_strokes_132 : decode cX0_strokes 132 = .ok (.iinc 7 1, 3) := by decide +kernel
theorem dX0_strokes_135 : decode cX0_strokes 135 = .ok (.goto (-77), 3) := by decide +kernel
theorem dX0_strokes_138 : decode cX0_strokes 138 = .ok (.iinc 6 1, 3) := by decide +kernel
theorem dX0_strokes_141 : decode cX0_strokes 141 = .ok (.goto (-93), 3) := by decide +kernel
theorem dX0_strokes_144 : decode cX0_strokes 144 = .ok (.iload 5, 2) := by decide +kernel
theorem dX0_strokes_146 : decode cX0_strokes 146 = .ok (.ireturn, 1) := by decide +kernel
theorem dX0_takeStep_0 : decode cX0_takeStep 0 = .ok (.aload_n 0, 1) := by decide +kernel
theorem dX0_takeStep_1 : decode cX0_takeStep 1 = .ok (.getfield 11, 3) := by decide +kernel
theorem dX0_takeStep_4 : decode cX0_takeStep 4 = .ok (.iload_n 1, 1) := by decide +kernel
theorem dX0_takeStep_5 : decode cX0_takeStep 5 = .ok (.aaload, 1) := by decide +kernel
theorem dX0_takeStep_6 : decode cX0_takeStep 6 = .ok (.astore_n 2, 1) := by decide +kernel
theorem dX0_takeStep_7 : decode cX0_takeStep 7 = .ok (.aload_n 0, 1) := by decide +kernel
theorem dX0_takeStep_8 : decode cX0_takeStep 8 = .ok (.getfield 11, 3) := by decide +kernel
theorem dX0_takeStep_11 : decode cX0_takeStep 11 = .ok (.iload_n 1, 1) := by decide +kernel
theorem dX0_takeStep_12 : decode cX0_takeStep 12 = .ok (.aload_n 0, 1) := by decide +kernel
theorem dX0_takeStep_13 : decode cX0_takeStep 13 = .ok (.getfield 34, 3) := by decide +kernel
theorem dX0_takeStep_16 : decode cX0_takeStep 16 = .ok (.aastore, 1) := by decide +kernel
theorem dX0_takeStep_17 : decode cX0_takeStep 17 = .ok (.aload_n 0, 1) := by decide +kernel
theorem dX0_takeStep_18 : decode cX0_takeStep 18 = .ok (.aload_n 0, 1) := by decide +kernel
theorem dX0_takeStep_19 : decode cX0_takeStep 19 = .ok (.getfield 19, 3) := by decide +kernel
theorem dX0_takeStep_22 : decode cX0_takeStep 22 = .ok (.iload_n 1, 1) := by decide +kernel
theorem dX0_takeStep_23 : decode cX0_takeStep 23 = .ok (.aload_n 2, 1) := by decide +kernel
theorem dX0_takeStep_24 : decode cX0_takeStep 24 = .ok (.invokevirtual 148, 3) := by decide +kernel
theorem dX0_takeStep_27 : decode cX0_takeStep 27 = .ok (.putfield 34, 3) := by decide +kernel
theorem dX0_takeStep_30 : decode cX0_takeStep 30 = .ok (.aload_n 0, 1) := by decide +kernel
theorem dX0_takeStep_31 : decode cX0_takeStep 31 = .ok (.getfield 11, 3) := by decide +kernel
theorem dX0_takeStep_34 : decode cX0_takeStep 34 = .ok (.iload_n 1, 1) := by decide +kernel
theorem dX0_takeStep_35 : decode cX0_takeStep 35 = .ok (.aaload, 1) := by decide +kernel
theorem dX0_takeStep_36 : decode cX0_takeStep 36 = .ok (.invokevirtual 89, 3) := by decide +kernel
theorem dX0_takeStep_39 : decode cX0_takeStep 39 = .ok (.ireturn, 1) := by decide +kernel
theorem dX0_isSolid_0 : decode cX0_isSolid 0 = .ok (.iload_n 0, 1) := by decide +kernel
theorem dX0_isSolid_1 : decode cX0_isSolid 1 = .ok (.ifCond .lt 13, 3) := by decide +kernel
theorem dX0_isSolid_4 : decode cX0_isSolid 4 = .ok (.iload_n 0, 1) := by decide +kernel
theorem dX0_isSolid_5 : decode cX0_isSolid 5 = .ok (.bipush 6, 2) := by decide +kernel
theorem dX0_isSolid_7 : decode cX0_isSolid 7 = .ok (.if_icmp .ge 7, 3) := by decide +kernel
theorem dX0_isSolid_10 : decode cX0_isSolid 10 = .ok (.iconst 1, 1) := by decide +kernel
theorem dX0_isSolid_11 : decode cX0_isSolid 11 = .ok (.goto 4, 3) := by decide +kernel
theorem dX0_isSolid_14 : decode cX0_isSolid 14 = .ok (.iconst 0, 1) := by decide +kernel
theorem dX0_isSolid_15 : decode cX0_isSolid 15 = .ok (.ireturn, 1) := by decide +kernel
theorem dX0_isAxis_0 : decode cX0_isAxis 0 = .ok (.iload_n 0, 1) := by decide +kernel
theorem dX0_isAxis_1 : decode cX0_isAxis 1 = .ok (.ifCond .lt 12, 3) := by decide +kernel
theorem dX0_isAxis_4 : decode cX0_isAxis 4 = .ok (.iload_n 0, 1) := by decide +kernel
theorem dX0_isAxis_5 : decode cX0_isAxis 5 = .ok (.iconst 3, 1) := by decide +kernel
theorem dX0_isAxis_6 : decode cX0_isAxis 6 = .ok (.if_icmp .ge 7, 3) := by decide +kernel
theorem dX0_isAxis_9 : decode cX0_isAxis 9 = .ok (.iconst 1, 1) := by decide +kernel
theorem dX0_isAxis_10 : decode cX0_isAxis 10 = .ok (.goto 4, 3) := by decide +kernel
theorem dX0_isAxis_13 : decode cX0_isAxis 13 = .ok (.iconst 0, 1) := by decide +kernel
theorem dX0_isAxis_14 : decode cX0_isAxis 14 = .ok (.ireturn, 1) := by decide +kernel
theorem dX0_isCoordinate_0 : decode cX0_isCoordinate 0 = .ok (.iload_n 0, 1) := by decide +kernel
theorem dX0_isCoordinate_1 : decode cX0_isCoordinate 1 = .ok (.ifCond .lt 13, 3) := by decide +kernel
theorem dX0_isCoordinate_4 : decode cX0_isCoordinate 4 = .ok (.iload_n 0, 1) := by decide +kernel
theorem dX0_isCoordinate_5 : decode cX0_isCoordinate 5 = .ok (.bipush 12, 2) := by decide +kernel
theorem dX0_isCoordinate_7 : decode cX0_isCoordinate 7 = .ok (.if_icmp .ge 7, 3) := by decide +kernel
theorem dX0_isCoordinate_10 : decode cX0_isCoordinate 10 = .ok (.iconst 1, 1) := by decide +kernel
theorem dX0_isCoordinate_11 : decode cX0_isCoordinate 11 = .ok (.goto 4, 3) := by decide +kernel
theorem dX0_isCoordinate_14 : decode cX0_isCoordinate 14 = .ok (.iconst 0, 1) := by decide +kernel
theorem dX0_isCoordinate_15 : decode cX0_isCoordinate 15 = .ok (.ireturn, 1) := by decide +kernel
theorem dX0_isPlane_0 : decode cX0_isPlane 0 = .ok (.iload_n 0, 1) := by decide +kernel
theorem dX0_isPlane_1 : decode cX0_isPlane 1 = .ok (.ifCond .lt 13, 3) := by decide +kernel
theorem dX0_isPlane_4 : decode cX0_isPlane 4 = .ok (.iload_n 0, 1) := by decide +kernel
theorem dX0_isPlane_5 : decode cX0_isPlane 5 = .ok (.bipush 12, 2) := by decide +kernel
theorem dX0_isPlane_7 : decode cX0_isPlane 7 = .ok (.if_icmp .gt 7, 3) := by decide +kernel
theorem dX0_isPlane_10 : decode cX0_isPlane 10 = .ok (.iconst 1, 1) := by decide +kernel
theorem dX0_isPlane_11 : decode cX0_isPlane 11 = .ok (.goto 4, 3) := by decide +kernel
theorem dX0_isPlane_14 : decode cX0_isPlane 14 = .ok (.iconst 0, 1) := by decide +kernel
theorem dX0_isPlane_15 : decode cX0_isPlane 15 = .ok (.ireturn, 1) := by decide +kernel
theorem dX0_isStretch_0 : decode cX0_isStretch 0 = .ok (.iload_n 0, 1) := by decide +kernel
theorem dX0_isStretch_1 : decode cX0_isStretch 1 = .ok (.invokestatic 75, 3) := by decide +kernel
theorem dX0_isStretch_4 : decode cX0_isStretch 4 = .ok (.ifCond .eq 20, 3) := by decide +kernel
theorem dX0_isStretch_7 : decode cX0_isStretch 7 = .ok (.iload_n 1, 1) := by decide +kernel
theorem dX0_isStretch_8 : decode cX0_isStretch 8 = .ok (.iconst 1, 1) := by decide +kernel
theorem dX0_isStretch_9 : decode cX0_isStretch 9 = .ok (.if_icmp .lt 15, 3) := by decide +kernel
theorem dX0_isStretch_12 : decode cX0_isStretch 12 = .ok (.iload_n 1, 1) := by decide +kernel
theorem dX0_isStretch_13 : decode cX0_isStretch 13 = .ok (.bipush 12, 2) := by decide +kernel
theorem dX0_isStretch_15 : decode cX0_isStretch 15 = .ok (.iload_n 0, 1) := by decide +kernel
theorem dX0_isStretch_16 : decode cX0_isStretch 16 = .ok (.isub, 1) := by decide +kernel
theorem dX0_isStretch_17 : decode cX0_isStretch 17 = .ok (.if_icmp .gt 7, 3) := by decide +kernel
theorem dX0_isStretch_20 : decode cX0_isStretch 20 = .ok (.iconst 1, 1) := by decide +kernel
theorem dX0_isStretch_21 : decode cX0_isStretch 21 = .ok (.goto 4, 3) := by decide +kernel
theorem dX0_isStretch_24 : decode cX0_isStretch 24 = .ok (.iconst 0, 1) := by decide +kernel
theorem dX0_isStretch_25 : decode cX0_isStretch 25 = .ok (.ireturn, 1) := by decide +kernel
theorem dX0_isStrokePlace_0 : decode cX0_isStrokePlace 0 = .ok (.iload_n 2, 1) := by decide +kernel
theorem dX0_isStrokePlace_1 : decode cX0_isStrokePlace 1 = .ok (.ifCond .ne 23, 3) := by decide +kernel
theorem dX0_isStrokePlace_4 : decode cX0_isStrokePlace 4 = .ok (.iload_n 0, 1) := by decide +kernel
theorem dX0_isStrokePlace_5 : decode cX0_isStrokePlace 5 = .ok (.invokestatic 116, 3) := by decide +kernel
theorem dX0_isStrokePlace_8 : decode cX0_isStrokePlace 8 = .ok (.ifCond .eq 14, 3) := by decide +kernel
theorem dX0_isStrokePlace_11 : decode cX0_isStrokePlace 11 = .ok (.iload_n 1, 1) := by decide +kernel
theorem dX0_isStrokePlace_12 : decode cX0_isStrokePlace 12 = .ok (.invokestatic 75, 3) := by decide +kernel
theorem dX0_isStrokePlace_15 : decode cX0_isStrokePlace 15 = .ok (.ifCond .eq 7, 3) := by decide +kernel
theorem dX0_isStrokePlace_18 : decode cX0_isStrokePlace 18 = .ok (.iconst 1, 1) := by decide +kernel
theorem dX0_isStrokePlace_19 : decode cX0_isStrokePlace 19 = .ok (.goto 4, 3) := by decide +kernel
theorem dX0_isStrokePlace_22 : decode cX0_isStrokePlace 22 = .ok (.iconst 0, 1) := by decide +kernel
theorem dX0_isStrokePlace_23 : decode cX0_isStrokePlace 23 = .ok (.ireturn, 1) := by decide +kernel
theorem dX0_isStrokePlace_24 : decode cX0_isStrokePlace 24 = .ok (.iload_n 2, 1) := by decide +kernel
theorem dX0_isStrokePlace_25 : decode cX0_isStrokePlace 25 = .ok (.iconst 1, 1) := by decide +kernel
theorem dX0_isStrokePlace_26 : decode cX0_isStrokePlace 26 = .ok (.if_icmp .ne 21, 3) := by decide +kernel
theorem dX0_isStrokePlace_29 : decode cX0_isStrokePlace 29 = .ok (.iload_n 0, 1) := by decide +kernel
theorem dX0_isStrokePlace_30 : decode cX0_isStrokePlace 30 = .ok (.invokestatic 75, 3) := by decide +kernel
theorem dX0_isStrokePlace_33 : decode cX0_isStrokePlace 33 = .ok (.ifCond .eq 14, 3) := by decide +kernel
theorem dX0_isStrokePlace_36 : decode cX0_isStrokePlace 36 = .ok (.iload_n 1, 1) := by decide +kernel
theorem dX0_isStrokePlace_37 : decode cX0_isStrokePlace 37 = .ok (.invokestatic 116, 3) := by decide +kernel
theorem dX0_isStrokePlace_40 : decode cX0_isStrokePlace 40 = .ok (.ifCond .eq 7, 3) := by decide +kernel
theorem dX0_isStrokePlace_43 : decode cX0_isStrokePlace 43 = .ok (.iconst 1, 1) := by decide +kernel
theorem dX0_isStrokePlace_44 : decode cX0_isStrokePlace 44 = .ok (.goto 4, 3) := by decide +kernel
theorem dX0_isStrokePlace_47 : decode cX0_isStrokePlace 47 = .ok (.iconst 0, 1) := by decide +kernel
theorem dX0_isStrokePlace_48 : decode cX0_isStrokePlace 48 = .ok (.ireturn, 1) := by decide +kernel
theorem dX0_wouldLeave_0 : decode cX0_wouldLeave 0 = .ok (.aload_n 0, 1) := by decide +kernel
theorem dX0_wouldLeave_1 : decode cX0_wouldLeave 1 = .ok (.iload_n 1, 1) := by decide +kernel
theorem dX0_wouldLeave_2 : decode cX0_wouldLeave 2 = .ok (.invokevirtual 110, 3) := by decide +kernel
theorem dX0_wouldLeave_5 : decode cX0_wouldLeave 5 = .ok (.istore_n 3, 1) := by decide +kernel
theorem dX0_wouldLeave_6 : decode cX0_wouldLeave 6 = .ok (.iload_n 3, 1) := by decide +kernel
theorem dX0_wouldLeave_7 : decode cX0_wouldLeave 7 = .ok (.bipush 12, 2) := by decide +kernel
theorem dX0_wouldLeave_9 : decode cX0_wouldLeave 9 = .ok (.if_icmp .ne 5, 3) := by decide +kernel
theorem dX0_wouldLeave_12 : decode cX0_wouldLeave 12 = .ok (.iconst 0, 1) := by decide +kernel
theorem dX0_wouldLeave_13 : decode cX0_wouldLeave 13 = .ok (.ireturn, 1) := by decide +kernel
theorem dX0_wouldLeave_14 : decode cX0_wouldLeave 14 = .ok (.iload_n 2, 1) := by decide +kernel
theorem dX0_wouldLeave_15 : decode cX0_wouldLeave 15 = .ok (.iload_n 3, 1) := by decide +kernel
theorem dX0_wouldLeave_16 : decode cX0_wouldLeave 16 = .ok (.ineg, 1) := by decide +kernel
theorem dX0_wouldLeave_17 : decode cX0_wouldLeave 17 = .ok (.if_icmp .lt 15, 3) := by decide +kernel
theorem dX0_wouldLeave_20 : decode cX0_wouldLeave 20 = .ok (.iload_n 2, 1) := by decide +kernel
theorem dX0_wouldLeave_21 : decode cX0_wouldLeave 21 = .ok (.bipush 11, 2) := by decide +kernel
theorem dX0_wouldLeave_23 : decode cX0_wouldLeave 23 = .ok (.aload_n 0, 1) := by decide +kernel
theorem dX0_wouldLeave_24 : decode cX0_wouldLeave 24 = .ok (.iload_n 1, 1) := by decide +kernel
theorem dX0_wouldLeave_25 : decode cX0_wouldLeave 25 = .ok (.invokevirtual 113, 3) := by decide +kernel
theorem dX0_wouldLeave_28 : decode cX0_wouldLeave 28 = .ok (.isub, 1) := by decide +kernel
theorem dX0_wouldLeave_29 : decode cX0_wouldLeave 29 = .ok (.if_icmp .le 7, 3) := by decide +kernel
theorem dX0_wouldLeave_32 : decode cX0_wouldLeave 32 = .ok (.iconst 1, 1) := by decide +kernel
theorem dX0_wouldLeave_33 : decode cX0_wouldLeave 33 = .ok (.goto 4, 3) := by decide +kernel
theorem dX0_wouldLeave_36 : decode cX0_wouldLeave 36 = .ok (.iconst 0, 1) := by decide +kernel
theorem dX0_wouldLeave_37 : decode cX0_wouldLeave 37 = .ok (.ireturn, 1) := by decide +kernel
theorem dX0_depthOf_0 : decode cX0_depthOf 0 = .ok (.iload_n 0, 1) := by decide +kernel
theorem dX0_depthOf_1 : decode cX0_depthOf 1 = .ok (.ifCond .ne 6, 3) := by decide +kernel
theorem dX0_depthOf_4 : decode cX0_depthOf 4 = .ok (.bipush 12, 2) := by decide +kernel
theorem dX0_depthOf_6 : decode cX0_depthOf 6 = .ok (.ireturn, 1) := by decide +kernel
theorem dX0_depthOf_7 : decode cX0_depthOf 7 = .ok (.iload_n 1, 1) := by decide +kernel
theorem dX0_depthOf_8 : decode cX0_depthOf 8 = .ok (.ifCond .eq 11, 3) := by decide +kernel
theorem dX0_depthOf_11 : decode cX0_depthOf 11 = .ok (.iload_n 0, 1) := by decide +kernel
theorem dX0_depthOf_12 : decode cX0_depthOf 12 = .ok (.invokestatic 152, 3) := by decide +kernel
theorem dX0_depthOf_15 : decode cX0_depthOf 15 = .ok (.bipush 20, 2) := by decide +kernel
theorem dX0_depthOf_17 : decode cX0_depthOf 17 = .ok (.isub, 1) := by decide +kernel
theorem dX0_depthOf_18 : decode cX0_depthOf 18 = .ok (.ireturn, 1) := by decide +kernel
theorem dX0_depthOf_19 : decode cX0_depthOf 19 = .ok (.iload_n 0, 1) := by decide +kernel
theorem dX0_depthOf_20 : decode cX0_depthOf 20 = .ok (.invokestatic 157, 3) := by decide +kernel
theorem dX0_depthOf_23 : decode cX0_depthOf 23 = .ok (.ireturn, 1) := by decide +kernel
theorem dX0_strokeBetween_0 : decode cX0_strokeBetween 0 = .ok (.iload_n 0, 1) := by decide +kernel
theorem dX0_strokeBetween_1 : decode cX0_strokeBetween 1 = .ok (.iload_n 2, 1) := by decide +kernel
theorem dX0_strokeBetween_2 : decode cX0_strokeBetween 2 = .ok (.invokestatic 130, 3) := by decide +kernel
theorem dX0_strokeBetween_5 : decode cX0_strokeBetween 5 = .ok (.iload_n 1, 1) := by decide +kernel
theorem dX0_strokeBetween_6 : decode cX0_strokeBetween 6 = .ok (.iload_n 2, 1) := by decide +kernel
theorem dX0_strokeBetween_7 : decode cX0_strokeBetween 7 = .ok (.invokestatic 130, 3) := by decide +kernel
theorem dX0_strokeBetween_10 : decode cX0_strokeBetween 10 = .ok (.if_icmp .eq 5, 3) := by decide +kernel
theorem dX0_strokeBetween_13 : decode cX0_strokeBetween 13 = .ok (.iconst 2, 1) := by decide +kernel
theorem dX0_strokeBetween_14 : decode cX0_strokeBetween 14 = .ok (.ireturn, 1) := by decide +kernel
theorem dX0_strokeBetween_15 : decode cX0_strokeBetween 15 = .ok (.iload_n 0, 1) := by decide +kernel
theorem dX0_strokeBetween_16 : decode cX0_strokeBetween 16 = .ok (.iload_n 1, 1) := by decide +kernel
theorem dX0_strokeBetween_17 : decode cX0_strokeBetween 17 = .ok (.invokestatic 160, 3) := by decide +kernel
theorem dX0_strokeBetween_20 : decode cX0_strokeBetween 20 = .ok (.ifCond .eq 7, 3) := by decide +kernel
theorem dX0_strokeBetween_23 : decode cX0_strokeBetween 23 = .ok (.iconst 1, 1) := by decide +kernel
theorem dX0_strokeBetween_24 : decode cX0_strokeBetween 24 = .ok (.goto 4, 3) := by decide +kernel
theorem dX0_strokeBetween_27 : decode cX0_strokeBetween 27 = .ok (.iconst 0, 1) := by decide +kernel
theorem dX0_strokeBetween_28 : decode cX0_strokeBetween 28 = .ok (.ireturn, 1) := by decide +kernel
theorem dX0_edgesBetween_0 : decode cX0_edgesBetween 0 = .ok (.iload_n 0, 1) := by decide +kernel
theorem dX0_edgesBetween_1 : decode cX0_edgesBetween 1 = .ok (.iload_n 0, 1) := by decide +kernel
theorem dX0_edgesBetween_2 : decode cX0_edgesBetween 2 = .ok (.iconst 1, 1) := by decide +kernel
theorem dX0_edgesBetween_3 : decode cX0_edgesBetween 3 = .ok (.ishl, 1) := by decide +kernel
theorem dX0_edgesBetween_4 : decode cX0_edgesBetween 4 = .ok (.iload_n 1, 1) := by decide +kernel
theorem dX0_edgesBetween_5 : decode cX0_edgesBetween 5 = .ok (.iload_n 1, 1) := by decide +kernel
theorem dX0_edgesBetween_6 : decode cX0_edgesBetween 6 = .ok (.iconst 1, 1) := by decide +kernel
theorem dX0_edgesBetween_7 : decode cX0_edgesBetween 7 = .ok (.ishl, 1) := by decide +kernel
theorem dX0_edgesBetween_8 : decode cX0_edgesBetween 8 = .ok (.invokestatic 163, 3) := by decide +kernel
theorem dX0_edgesBetween_11 : decode cX0_edgesBetween 11 = .ok (.ireturn, 1) := by decide +kernel
theorem dX0_edgesAmong_0 : decode cX0_edgesAmong 0 = .ok (.iload_n 0, 1) := by decide +kernel
theorem dX0_edgesAmong_1 : decode cX0_edgesAmong 1 = .ok (.iload_n 1, 1) := by decide +kernel
theorem dX0_edgesAmong_2 : decode cX0_edgesAmong 2 = .ok (.ixor, 1) := by decide +kernel
theorem dX0_edgesAmong_3 : decode cX0_edgesAmong 3 = .ok (.iload_n 2, 1) := by decide +kernel
theorem dX0_edgesAmong_4 : decode cX0_edgesAmong 4 = .ok (.iload_n 3, 1) := by decide +kernel
theorem dX0_edgesAmong_5 : decode cX0_edgesAmong 5 = .ok (.ixor, 1) := by decide +kernel
theorem dX0_edgesAmong_6 : decode cX0_edgesAmong 6 = .ok (.ior, 1) := by decide +kernel
theorem dX0_edgesAmong_7 : decode cX0_edgesAmong 7 = .ok (.iload_n 0, 1) := by decide +kernel
theorem dX0_edgesAmong_8 : decode cX0_edgesAmong 8 = .ok (.iload_n 2, 1) := by decide +kernel
theorem dX0_edgesAmong_9 : decode cX0_edgesAmong 9 = .ok (.ixor, 1) := by decide +kernel
theorem dX0_edgesAmong_10 : decode cX0_edgesAmong 10 = .ok (.iload_n 1, 1) := by decide +kernel
theorem dX0_edgesAmong_11 : decode cX0_edgesAmong 11 = .ok (.iload_n 3, 1) := by decide +kernel
theorem dX0_edgesAmong_12 : decode cX0_edgesAmong 12 = .ok (.ixor, 1) := by decide +kernel
theorem dX0_edgesAmong_13 : decode cX0_edgesAmong 13 = .ok (.ior, 1) := by decide +kernel
theorem dX0_edgesAmong_14 : decode cX0_edgesAmong 14 = .ok (.iand, 1) := by decide +kernel
theorem dX0_edgesAmong_15 : decode cX0_edgesAmong 15 = .ok (.ireturn, 1) := by decide +kernel
end
section
theorem dX4_init_0 : decode cX4_init 0 = .ok (.aload_n 0, 1) := by decide +kernel
theorem dX4_init_1 : decode cX4_init 1 = .ok (.invokespecial 1, 3) := by decide +kernel
theorem dX4_init_4 : decode cX4_init 4 = .ok (.aload_n 0, 1) := by decide +kernel
theorem dX4_init_5 : decode cX4_init 5 = .ok (.sipush 4464, 3) := by decide +kernel
theorem dX4_init_8 : decode cX4_init 8 = .ok (.newarray .int, 2) := by decide +kernel
theorem dX4_init_10 : decode cX4_init 10 = .ok (.putfield 7, 3) := by decide +kernel
theorem dX4_init_13 : decode cX4_init 13 = .ok (.aload_n 0, 1) := by decide +kernel
theorem dX4_init_14 : decode cX4_init 14 = .ok (.bipush 12, 2) := by decide +kernel
theorem dX4_init_16 : decode cX4_init 16 = .ok (.newarray .int, 2) := by decide +kernel
theorem dX4_init_18 : decode cX4_init 18 = .ok (.putfield 13, 3) := by decide +kernel
theorem dX4_init_21 : decode cX4_init 21 = .ok (.aload_n 0, 1) := by decide +kernel
theorem dX4_init_22 : decode cX4_init 22 = .ok (.sipush 144, 3) := by decide +kernel
theorem dX4_init_25 : decode cX4_init 25 = .ok (.newarray .int, 2) := by decide +kernel
theorem dX4_init_27 : decode cX4_init 27 = .ok (.putfield 16, 3) := by decide +kernel
theorem dX4_init_30 : decode cX4_init 30 = .ok (.aload_n 0, 1) := by decide +kernel
theorem dX4_init_31 : decode cX4_init 31 = .ok (.sipush 1728, 3) := by decide +kernel
theorem dX4_init_34 : decode cX4_init 34 = .ok (.newarray .int, 2) := by decide +kernel
theorem dX4_init_36 : decode cX4_init 36 = .ok (.putfield 19, 3) := by decide +kernel
theorem dX4_init_39 : decode cX4_init 39 = .ok (.return_, 1) := by decide +kernel
theorem dX4_isIn_0 : decode cX4_isIn 0 = .ok (.iload_n 0, 1) := by decide +kernel
theorem dX4_isIn_1 : decode cX4_isIn 1 = .ok (.ifCond .lt 12, 3) := by decide +kernel
theorem dX4_isIn_4 : decode cX4_isIn 4 = .ok (.iload_n 0, 1) := by decide +kernel
theorem dX4_isIn_5 : decode cX4_isIn 5 = .ok (.iload_n 1, 1) := by decide +kernel
theorem dX4_isIn_6 : decode cX4_isIn 6 = .ok (.if_icmp .ge 7, 3) := by decide +kernel
theorem dX4_isIn_9 : decode cX4_isIn 9 = .ok (.iconst 1, 1) := by decide +kernel
theorem dX4_isIn_10 : decode cX4_isIn 10 = .ok (.goto 4, 3) := by decide +kernel
theorem dX4_isIn_13 : decode cX4_isIn 13 = .ok (.iconst 0, 1) := by decide +kernel
theorem dX4_isIn_14 : decode cX4_isIn 14 = .ok (.ireturn, 1) := by decide +kernel
theorem dX4_isSolid_0 : decode cX4_isSolid 0 = .ok (.iload_n 0, 1) := by decide +kernel
theorem dX4_isSolid_1 : decode cX4_isSolid 1 = .ok (.ifCond .lt 13, 3) := by decide +kernel
theorem dX4_isSolid_4 : decode cX4_isSolid 4 = .ok (.iload_n 0, 1) := by decide +kernel
theorem dX4_isSolid_5 : decode cX4_isSolid 5 = .ok (.bipush 6, 2) := by decide +kernel
theorem dX4_isSolid_7 : decode cX4_isSolid 7 = .ok (.if_icmp .ge 7, 3) := by decide +kernel
theorem dX4_isSolid_10 : decode cX4_isSolid 10 = .ok (.iconst 1, 1) := by decide +kernel
theorem dX4_isSolid_11 : decode cX4_isSolid 11 = .ok (.goto 4, 3) := by decide +kernel
theorem dX4_isSolid_14 : decode cX4_isSolid 14 = .ok (.iconst 0, 1) := by decide +kernel
theorem dX4_isSolid_15 : decode cX4_isSolid 15 = .ok (.ireturn, 1) := by decide +kernel
theorem dX4_isAxis_0 : decode cX4_isAxis 0 = .ok (.iload_n 0, 1) := by decide +kernel
theorem dX4_isAxis_1 : decode cX4_isAxis 1 = .ok (.ifCond .lt 12, 3) := by decide +kernel
theorem dX4_isAxis_4 : decode cX4_isAxis 4 = .ok (.iload_n 0, 1) := by decide +kernel
theorem dX4_isAxis_5 : decode cX4_isAxis 5 = .ok (.iconst 3, 1) := by decide +kernel
theorem dX4_isAxis_6 : decode cX4_isAxis 6 = .ok (.if_icmp .ge 7, 3) := by decide +kernel
theorem dX4_isAxis_9 : decode cX4_isAxis 9 = .ok (.iconst 1, 1) := by decide +kernel
theorem dX4_isAxis_10 : decode cX4_isAxis 10 = .ok (.goto 4, 3) := by decide +kernel
theorem dX4_isAxis_13 : decode cX4_isAxis 13 = .ok (.iconst 0, 1) := by decide +kernel
theorem dX4_isAxis_14 : decode cX4_isAxis 14 = .ok (.ireturn, 1) := by decide +kernel
theorem dX4_has_0 : decode cX4_has 0 = .ok (.iload_n 2, 1) := by decide +kernel
theorem dX4_has_1 : decode cX4_has 1 = .ok (.bipush 12, 2) := by decide +kernel
theorem dX4_has_3 : decode cX4_has 3 = .ok (.invokestatic 22, 3) := by decide +kernel
theorem dX4_has_6 : decode cX4_has 6 = .ok (.ifCond .eq 52, 3) := by decide +kernel
theorem dX4_has_9 : decode cX4_has 9 = .ok (.iload_n 3, 1) := by decide +kernel
theorem dX4_has_10 : decode cX4_has 10 = .ok (.bipush 12, 2) := by decide +kernel
theorem dX4_has_12 : decode cX4_has 12 = .ok (.invokestatic 22, 3) := by decide +kernel
theorem dX4_has_15 : decode cX4_has 15 = .ok (.ifCond .eq 43, 3) := by decide +kernel
theorem dX4_has_18 : decode cX4_has 18 = .ok (.iload 4, 2) := by decide +kernel
theorem dX4_has_20 : decode cX4_has 20 = .ok (.bipush 12, 2) := by decide +kernel
theorem dX4_has_22 : decode cX4_has 22 = .ok (.invokestatic 22, 3) := by decide +kernel
theorem dX4_has_25 : decode cX4_has 25 = .ok (.ifCond .eq 33, 3) := by decide +kernel
theorem dX4_has_28 : decode cX4_has 28 = .ok (.aload_n 0, 1) := by decide +kernel
theorem dX4_has_29 : decode cX4_has 29 = .ok (.getfield 7, 3) := by decide +kernel
theorem dX4_has_32 : decode cX4_has 32 = .ok (.sipush 144, 3) := by decide +kernel
theorem dX4_has_35 : decode cX4_has 35 = .ok (.iload_n 1, 1) := by decide +kernel
theorem dX4_has_36 : decode cX4_has 36 = .ok (.imul, 1) := by decide +kernel
theorem dX4_has_37 : decode cX4_has 37 = .ok (.bipush 12, 2) := by decide +kernel
theorem dX4_has_39 : decode cX4_has 39 = .ok (.iload_n 2, 1) := by decide +kernel
theorem dX4_has_40 : decode cX4_has 40 = .ok (.imul, 1) := by decide +kernel
theorem dX4_has_41 : decode cX4_has 41 = .ok (.iadd, 1) := by decide +kernel
theorem dX4_has_42 : decode cX4_has 42 = .ok (.iload_n 3, 1) := by decide +kernel
theorem dX4_has_43 : decode cX4_has 43 = .ok (.iadd, 1) := by decide +kernel
theorem dX4_has_44 : decode cX4_has 44 = .ok (.iaload, 1) := by decide +kernel
theorem dX4_has_45 : decode cX4_has 45 = .ok (.iload 4, 2) := by decide +kernel
theorem dX4_has_47 : decode cX4_has 47 = .ok (.ishr, 1) := by decide +kernel
theorem dX4_has_48 : decode cX4_has 48 = .ok (.iconst 1, 1) := by decide +kernel
theorem dX4_has_49 : decode cX4_has 49 = .ok (.iand, 1) := by decide +kernel
theorem dX4_has_50 : decode cX4_has 50 = .ok (.iconst 1, 1) := by decide +kernel
theorem dX4_has_51 : decode cX4_has 51 = .ok (.if_icmp .ne 7, 3) := by decide +kernel
theorem dX4_has_54 : decode cX4_has 54 = .ok (.iconst 1, 1) := by decide +kernel
theorem dX4_has_55 : decode cX4_has 55 = .ok (.goto 4, 3) := by decide +kernel
theorem dX4_has_58 : decode cX4_has 58 = .ok (.iconst 0, 1) := by decide +kernel
theorem dX4_has_59 : decode cX4_has 59 = .ok (.ireturn, 1) := by decide +kernel
theorem dX4_hasBy_0 : decode cX4_hasBy 0 = .ok (.iload_n 2, 1) := by decide +kernel
theorem dX4_hasBy_1 : decode cX4_hasBy 1 = .ok (.ifCond .ne 16, 3) := by decide +kernel
theorem dX4_hasBy_4 : decode cX4_hasBy 4 = .ok (.aload_n 0, 1) := by decide +kernel
theorem dX4_hasBy_5 : decode cX4_hasBy 5 = .ok (.iload_n 1, 1) := by decide +kernel
theorem dX4_hasBy_6 : decode cX4_hasBy 6 = .ok (.iload_n 3, 1) := by decide +kernel
theorem dX4_hasBy_7 : decode cX4_hasBy 7 = .ok (.iload 4, 2) := by decide +kernel
theorem dX4_hasBy_9 : decode cX4_hasBy 9 = .ok (.iload 5, 2) := by decide +kernel
theorem dX4_hasBy_11 : decode cX4_hasBy 11 = .ok (.invokevirtual 26, 3) := by decide +kernel
theorem dX4_hasBy_14 : decode cX4_hasBy 14 = .ok (.goto 31, 3) := by decide +kernel
theorem dX4_hasBy_17 : decode cX4_hasBy 17 = .ok (.iload_n 2, 1) := by decide +kernel
theorem dX4_hasBy_18 : decode cX4_hasBy 18 = .ok (.iconst 1, 1) := by decide +kernel
theorem dX4_hasBy_19 : decode cX4_hasBy 19 = .ok (.if_icmp .ne 16, 3) := by decide +kernel
theorem dX4_hasBy_22 : decode cX4_hasBy 22 = .ok (.aload_n 0, 1) := by decide +kernel
theorem dX4_hasBy_23 : decode cX4_hasBy 23 = .ok (.iload_n 1, 1) := by decide +kernel
theorem dX4_hasBy_24 : decode cX4_hasBy 24 = .ok (.iload 4, 2) := by decide +kernel
theorem dX4_hasBy_26 : decode cX4_hasBy 26 = .ok (.iload_n 3, 1) := by decide +kernel
theorem dX4_hasBy_27 : decode cX4_hasBy 27 = .ok (.iload 5, 2) := by decide +kernel
theorem dX4_hasBy_29 : decode cX4_hasBy 29 = .ok (.invokevirtual 26, 3) := by decide +kernel
theorem dX4_hasBy_32 : decode cX4_hasBy 32 = .ok (.goto 13, 3) := by decide +kernel
theorem dX4_hasBy_35 : decode cX4_hasBy 35 = .ok (.aload_n 0, 1) := by decide +kernel
theorem dX4_hasBy_36 : decode cX4_hasBy 36 = .ok (.iload_n 1, 1) := by decide +kernel
theorem dX4_hasBy_37 : decode cX4_hasBy 37 = .ok (.iload 4, 2) := by decide +kernel
theorem dX4_hasBy_39 : decode cX4_hasBy 39 = .ok (.iload 5, 2) := by decide +kernel
theorem dX4_hasBy_41 : decode cX4_hasBy 41 = .ok (.iload_n 3, 1) := by decide +kernel
theorem dX4_hasBy_42 : decode cX4_hasBy 42 = .ok (.invokevirtual 26, 3) := by decide +kernel
theorem dX4_hasBy_45 : decode cX4_hasBy 45 = .ok (.ireturn, 1) := by decide +kernel
theorem dX4_clearDraft_0 : decode cX4_clearDraft 0 = .ok (.iconst 0, 1) := by decide +kernel
theorem dX4_clearDraft_1 : decode cX4_clearDraft 1 = .ok (.istore_n 1, 1) := by decide +kernel
theorem dX4_clearDraft_2 : decode cX4_clearDraft 2 = .ok (.iload_n 1, 1) := by decide +kernel
theorem dX4_clearDraft_3 : decode cX4_clearDraft 3 = .ok (.sipush 144, 3) := by decide +kernel
theorem dX4_clearDraft_6 : decode cX4_clearDraft 6 = .ok (.if_icmp .ge 20, 3) := by decide +kernel
theorem dX4_clearDraft_9 : decode cX4_clearDraft 9 = .ok (.aload_n 0, 1) := by decide +kernel
theorem dX4_clearDraft_10 : decode cX4_clearDraft 10 = .ok (.getfield 7, 3) := by decide +kernel
theorem dX4_clearDraft_13 : decode cX4_clearDraft 13 = .ok (.sipush 864, 3) := by decide +kernel
theorem dX4_clearDraft_16 : decode cX4_clearDraft 16 = .ok (.iload_n 1, 1) := by decide +kernel
theorem dX4_clearDraft_17 : decode cX4_clearDraft 17 = .ok (.iadd, 1) := by decide +kernel
theorem dX4_clearDraft_18 : decode cX4_clearDraft 18 = .ok (.iconst 0, 1) := by decide +kernel
theorem dX4_clearDraft_19 : decode cX4_clearDraft 19 = .ok (.iastore, 1) := by decide +kernel
theorem dX4_clearDraft_20 : decode cX4_clearDraft 20 = .ok (.iinc 1 1, 3) := by decide +kernel
theorem dX4_clearDraft_23 : decode cX4_clearDraft 23 = .ok (.goto (-21), 3) := by decide +kernel
theorem dX4_clearDraft_26 : decode cX4_clearDraft 26 = .ok (.return_, 1) := by decide +kernel
theorem dX4_put_0 : decode cX4_put 0 = .ok (.aload_n 0, 1) := by decide +kernel
theorem dX4_put_1 : decode cX4_put 1 = .ok (.getfield 7, 3) := by decide +kernel
theorem dX4_put_4 : decode cX4_put 4 = .ok (.sipush 864, 3) := by decide +kernel
theorem dX4_put_7 : decode cX4_put 7 = .ok (.bipush 12, 2) := by decide +kernel
theorem dX4_put_9 : decode cX4_put 9 = .ok (.iload_n 1, 1) := by decide +kernel
theorem dX4_put_10 : decode cX4_put 10 = .ok (.imul, 1) := by decide +kernel
theorem dX4_put_11 : decode cX4_put 11 = .ok (.iadd, 1) := by decide +kernel
theorem dX4_put_12 : decode cX4_put 12 = .ok (.iload_n 2, 1) := by decide +kernel
theorem dX4_put_13 : decode cX4_put 13 = .ok (.iadd, 1) := by decide +kernel
theorem dX4_put_14 : decode cX4_put 14 = .ok (.dup2, 1) := by decide +kernel
theorem dX4_put_15 : decode cX4_put 15 = .ok (.iaload, 1) := by decide +kernel
theorem dX4_put_16 : decode cX4_put 16 = .ok (.iconst 1, 1) := by decide +kernel
theorem dX4_put_17 : decode cX4_put 17 = .ok (.iload_n 3, 1) := by decide +kernel
theorem dX4_put_18 : decode cX4_put 18 = .ok (.ishl, 1) := by decide +kernel
theorem dX4_put_19 : decode cX4_put 19 = .ok (.ior, 1) := by decide +kernel
theorem dX4_put_20 : decode cX4_put 20 = .ok (.iastore, 1) := by decide +kernel
theorem dX4_put_21 : decode cX4_put 21 = .ok (.return_, 1) := by decide +kernel
theorem dX4_copy_0 : decode cX4_copy 0 = .ok (.iconst 0, 1) := by decide +kernel
theorem dX4_copy_1 : decode cX4_copy 1 = .ok (.istore_n 3, 1) := by decide +kernel
theorem dX4_copy_2 : decode cX4_copy 2 = .ok (.iload_n 3, 1) := by decide +kernel
theorem dX4_copy_3 : decode cX4_copy 3 = .ok (.sipush 144, 3) := by decide +kernel
theorem dX4_copy_6 : decode cX4_copy 6 = .ok (.if_icmp .ge 25, 3) := by decide +kernel
theorem dX4_copy_9 : decode cX4_copy 9 = .ok (.aload_n 0, 1) := by decide +kernel
theorem dX4_copy_10 : decode cX4_copy 10 = .ok (.getfield 7, 3) := by decide +kernel
theorem dX4_copy_13 : decode cX4_copy 13 = .ok (.iload_n 2, 1) := by decide +kernel
theorem dX4_copy_14 : decode cX4_copy 14 = .ok (.iload_n 3, 1) := by decide +kernel
theorem dX4_copy_15 : decode cX4_copy 15 = .ok (.iadd, 1) := by decide +kernel
theorem dX4_copy_16 : decode cX4_copy 16 = .ok (.aload_n 0, 1) := by decide +kernel
theorem dX4_copy_17 : decode cX4_copy 17 = .ok (.getfield 7, 3) := by decide +kernel
theorem dX4_copy_20 : decode cX4_copy 20 = .ok (.iload_n 1, 1) := by decide +kernel
theorem dX4_copy_21 : decode cX4_copy 21 = .ok (.iload_n 3, 1) := by decide +kernel
theorem dX4_copy_22 : decode cX4_copy 22 = .ok (.iadd, 1) := by decide +kernel
theorem dX4_copy_23 : decode cX4_copy 23 = .ok (.iaload, 1) := by decide +kernel
theorem dX4_copy_24 : decode cX4_copy 24 = .ok (.iastore, 1) := by decide +kernel
theorem dX4_copy_25 : decode cX4_copy 25 = .ok (.iinc 3 1, 3) := by decide +kernel
theorem dX4_copy_28 : decode cX4_copy 28 = .ok (.goto (-26), 3) := by decide +kernel
theorem dX4_copy_31 : decode cX4_copy 31 = .ok (.return_, 1) := by decide +kernel
theorem dX4_count_0 : decode cX4_count 0 = .ok (.iconst 0, 1) := by decide +kernel
theorem dX4_count_1 : decode cX4_count 1 = .ok (.istore_n 2, 1) := by decide +kernel
theorem dX4_count_2 : decode cX4_count 2 = .ok (.iconst 0, 1) := by decide +kernel
theorem dX4_count_3 : decode cX4_count 3 = .ok (.istore_n 3, 1) := by decide +kernel
theorem dX4_count_4 : decode cX4_count 4 = .ok (.iload_n 3, 1) := by decide +kernel
theorem dX4_count_5 : decode cX4_count 5 = .ok (.sipush 1728, 3) := by decide +kernel
theorem dX4_count_8 : decode cX4_count 8 = .ok (.if_icmp .ge 34, 3) := by decide +kernel
theorem dX4_count_11 : decode cX4_count 11 = .ok (.iload_n 2, 1) := by decide +kernel
theorem dX4_count_12 : decode cX4_count 12 = .ok (.aload_n 0, 1) := by decide +kernel
theorem dX4_count_13 : decode cX4_count 13 = .ok (.getfield 7, 3) := by decide +kernel
theorem dX4_count_16 : decode cX4_count 16 = .ok (.sipush 144, 3) := by decide +kernel
theorem dX4_count_19 : decode cX4_count 19 = .ok (.iload_n 1, 1) := by decide +kernel
theorem dX4_count_20 : decode cX4_count 20 = .ok (.imul, 1) := by decide +kernel
theorem dX4_count_21 : decode cX4_count 21 = .ok (.iload_n 3, 1) := by decide +kernel
theorem dX4_count_22 : decode cX4_count 22 = .ok (.bipush 12, 2) := by decide +kernel
theorem dX4_count_24 : decode cX4_count 24 = .ok (.idiv, 1) := by decide +kernel
theorem dX4_count_25 : decode cX4_count 25 = .ok (.iadd, 1) := by decide +kernel
theorem dX4_count_26 : decode cX4_count 26 = .ok (.iaload, 1) := by decide +kernel
theorem dX4_count_27 : decode cX4_count 27 = .ok (.iload_n 3, 1) := by decide +kernel
theorem dX4_count_28 : decode cX4_count 28 = .ok (.bipush 12, 2) := by decide +kernel
theorem dX4_count_30 : decode cX4_count 30 = .ok (.irem, 1) := by decide +kernel
theorem dX4_count_31 : decode cX4_count 31 = .ok (.ishr, 1) := by decide +kernel
theorem dX4_count_32 : decode cX4_count 32 = .ok (.iconst 1, 1) := by decide +kernel
theorem dX4_count_33 : decode cX4_count 33 = .ok (.iand, 1) := by decide +kernel
theorem dX4_count_34 : decode cX4_count 34 = .ok (.iadd, 1) := by decide +kernel
theorem dX4_count_35 : decode cX4_count 35 = .ok (.istore_n 2, 1) := by decide +kernel
theorem dX4_count_36 : decode cX4_count 36 = .ok (.iinc 3 1, 3) := by decide +kernel
theorem dX4_count_39 : decode cX4_count 39 = .ok (.goto (-35), 3) := by decide +kernel
theorem dX4_count_42 : decode cX4_count 42 = .ok (.iload_n 2, 1) := by decide +kernel
theorem dX4_count_43 : decode cX4_count 43 = .ok (.ireturn, 1) := by decide +kernel
theorem dX4_step_0 : decode cX4_step 0 = .ok (.aload_n 0, 1) := by decide +kernel
theorem dX4_step_1 : decode cX4_step 1 = .ok (.getfield 30, 3) := by decide +kernel
theorem dX4_step_4 : decode cX4_step 4 = .ok (.bipush 12, 2) := by decide +kernel
theorem dX4_step_6 : decode cX4_step 6 = .ok (.if_icmp .ne 89, 3) := by decide +kernel
theorem dX4_step_9 : decode cX4_step 9 = .ok (.iconst 1, 1) := by decide +kernel
theorem dX4_step_10 : decode cX4_step 10 = .ok (.istore_n 2, 1) := by decide +kernel
theorem dX4_step_11 : decode cX4_step 11 = .ok (.iload_n 2, 1) := by decide +kernel
theorem dX4_step_12 : decode cX4_step 12 = .ok (.bipush 12, 2) := by decide +kernel
theorem dX4_step_14 : decode cX4_step 14 = .ok (.if_icmp .ge 71, 3) := by decide +kernel
theorem dX4_step_17 : decode cX4_step 17 = .ok (.aload_n 0, 1) := by decide +kernel
theorem dX4_step_18 : decode cX4_step 18 = .ok (.getfield 13, 3) := by decide +kernel
theorem dX4_step_21 : decode cX4_step 21 = .ok (.iload_n 2, 1) := by decide +kernel
theorem dX4_step_22 : decode cX4_step 22 = .ok (.iconst 1, 1) := by decide +kernel
theorem dX4_step_23 : decode cX4_step 23 = .ok (.isub, 1) := by decide +kernel
theorem dX4_step_24 : decode cX4_step 24 = .ok (.aload_n 0, 1) := by decide +kernel
theorem dX4_step_25 : decode cX4_step 25 = .ok (.getfield 13, 3) := by decide +kernel
theorem dX4_step_28 : decode cX4_step 28 = .ok (.iload_n 2, 1) := by decide +kernel
theorem dX4_step_29 : decode cX4_step 29 = .ok (.iaload, 1) := by decide +kernel
theorem dX4_step_30 : decode cX4_step 30 = .ok (.iastore, 1) := by decide +kernel
theorem dX4_step_31 : decode cX4_step 31 = .ok (.aload_n 0, 1) := by decide +kernel
theorem dX4_step_32 : decode cX4_step 32 = .ok (.sipush 1008, 3) := by decide +kernel
theorem dX4_step_35 : decode cX4_step 35 = .ok (.sipush 144, 3) := by decide +kernel
theorem dX4_step_38 : decode cX4_step 38 = .ok (.iload_n 2, 1) := by decide +kernel
theorem dX4_step_39 : decode cX4_step 39 = .ok (.imul, 1) := by decide +kernel
theorem dX4_step_40 : decode cX4_step 40 = .ok (.iadd, 1) := by decide +kernel
theorem dX4_step_41 : decode cX4_step 41 = .ok (.sipush 1008, 3) := by decide +kernel
theorem dX4_step_44 : decode cX4_step 44 = .ok (.sipush 144, 3) := by decide +kernel
theorem dX4_step_47 : decode cX4_step 47 = .ok (.iload_n 2, 1) := by decide +kernel
theorem dX4_step_48 : decode cX4_step 48 = .ok (.iconst 1, 1) := by decide +kernel
theorem dX4_step_49 : decode cX4_step 49 = .ok (.isub, 1) := by decide +kernel
theorem dX4_step_50 : decode cX4_step 50 = .ok (.imul, 1) := by decide +kernel
theorem dX4_step_51 : decode cX4_step 51 = .ok (.iadd, 1) := by decide +kernel
theorem dX4_step_52 : decode cX4_step 52 = .ok (.invokevirtual 34, 3) := by decide +kernel
theorem dX4_step_55 : decode cX4_step 55 = .ok (.aload_n 0, 1) := by decide +kernel
theorem dX4_step_56 : decode cX4_step 56 = .ok (.sipush 2736, 3) := by decide +kernel
theorem dX4_step_59 : decode cX4_step 59 = .ok (.sipush 144, 3) := by decide +kernel
theorem dX4_step_62 : decode cX4_step 62 = .ok (.iload_n 2, 1) := by decide +kernel
theorem dX4_step_63 : decode cX4_step 63 = .ok (.imul, 1) := by decide +kernel
theorem dX4_step_64 : decode cX4_step 64 = .ok (.iadd, 1) := by decide +kernel
theorem dX4_step_65 : decode cX4_step 65 = .ok (.sipush 2736, 3) := by decide +kernel
theorem dX4_step_68 : decode cX4_step 68 = .ok (.sipush 144, 3) := by decide +kernel
theorem dX4_step_71 : decode cX4_step 71 = .ok (.iload_n 2, 1) := by decide +kernel
theorem dX4_step_72 : decode cX4_step 72 = .ok (.iconst 1, 1) := by decide +kernel
theorem dX4_step_73 : decode cX4_step 73 = .ok (.isub, 1) := by decide +kernel
theorem dX4_step_74 : decode cX4_step 74 = .ok (.imul, 1) := by decide +kernel
theorem dX4_step_75 : decode cX4_step 75 = .ok (.iadd, 1) := by decide +kernel
theorem dX4_step_76 : decode cX4_step 76 = .ok (.invokevirtual 34, 3) := by decide +kernel
theorem dX4_step_79 : decode cX4_step 79 = .ok (.iinc 2 1, 3) := by decide +kernel
theorem dX4_step_82 : decode cX4_step 82 = .ok (.goto (-71), 3) := by decide +kernel
theorem dX4_step_85 : decode cX4_step 85 = .ok (.aload_n 0, 1) := by decide +kernel
theorem dX4_step_86 : decode cX4_step 86 = .ok (.dup, 1) := by decide +kernel
theorem dX4_step_87 : decode cX4_step 87 = .ok (.getfield 30, 3) := by decide +kernel
theorem dX4_step_90 : decode cX4_step 90 = .ok (.iconst 1, 1) := by decide +kernel
theorem dX4_step_91 : decode cX4_step 91 = .ok (.isub, 1) := by decide +kernel
theorem dX4_step_92 : decode cX4_step 92 = .ok (.putfield 30, 3) := by decide +kernel
theorem dX4_step_95 : decode cX4_step 95 = .ok (.aload_n 0, 1) := by decide +kernel
theorem dX4_step_96 : decode cX4_step 96 = .ok (.getfield 13, 3) := by decide +kernel
theorem dX4_step_99 : decode cX4_step 99 = .ok (.aload_n 0, 1) := by decide +kernel
theorem dX4_step_100 : decode cX4_step 100 = .ok (.getfield 30, 3) := by decide +kernel
theorem dX4_step_103 : decode cX4_step 103 = .ok (.iload_n 1, 1) := by decide +kernel
theorem dX4_step_104 : decode cX4_step 104 = .ok (.iastore, 1) := by decide +kernel
theorem dX4_step_105 : decode cX4_step 105 = .ok (.aload_n 0, 1) := by decide +kernel
theorem dX4_step_106 : decode cX4_step 106 = .ok (.sipush 144, 3) := by decide +kernel
theorem dX4_step_109 : decode cX4_step 109 = .ok (.iload_n 1, 1) := by decide +kernel
theorem dX4_step_110 : decode cX4_step 110 = .ok (.imul, 1) := by decide +kernel
theorem dX4_step_111 : decode cX4_step 111 = .ok (.sipush 1008, 3) := by decide +kernel
theorem dX4_step_114 : decode cX4_step 114 = .ok (.sipush 144, 3) := by decide +kernel
theorem dX4_step_117 : decode cX4_step 117 = .ok (.aload_n 0, 1) := by decide +kernel
theorem dX4_step_118 : decode cX4_step 118 = .ok (.getfield 30, 3) := by decide +kernel
theorem dX4_step_121 : decode cX4_step 121 = .ok (.imul, 1) := by decide +kernel
theorem dX4_step_122 : decode cX4_step 122 = .ok (.iadd, 1) := by decide +kernel
theorem dX4_step_123 : decode cX4_step 123 = .ok (.invokevirtual 34, 3) := by decide +kernel
theorem dX4_step_126 : decode cX4_step 126 = .ok (.aload_n 0, 1) := by decide +kernel
theorem dX4_step_127 : decode cX4_step 127 = .ok (.sipush 864, 3) := by decide +kernel
theorem dX4_step_130 : decode cX4_step 130 = .ok (.sipush 2736, 3) := by decide +kernel
theorem dX4_step_133 : decode cX4_step 133 = .ok (.sipush 144, 3) := by decide +kernel
theorem dX4_step_136 : decode cX4_step 136 = .ok (.aload_n 0, 1) := by decide +kernel
theorem dX4_step_137 : decode cX4_step 137 = .ok (.getfield 30, 3) := by decide +kernel
theorem dX4_step_140 : decode cX4_step 140 = .ok (.imul, 1) := by decide +kernel
theorem dX4_step_141 : decode cX4_step 141 = .ok (.iadd, 1) := by decide +kernel
theorem dX4_step_142 : decode cX4_step 142 = .ok (.invokevirtual 34, 3) := by decide +kernel
theorem dX4_step_145 : decode cX4_step 145 = .ok (.aload_n 0, 1) := by decide +kernel
theorem dX4_step_146 : decode cX4_step 146 = .ok (.sipush 864, 3) := by decide +kernel
theorem dX4_step_149 : decode cX4_step 149 = .ok (.sipush 144, 3) := by decide +kernel
theorem dX4_step_152 : decode cX4_step 152 = .ok (.iload_n 1, 1) := by decide +kernel
theorem dX4_step_153 : decode cX4_step 153 = .ok (.imul, 1) := by decide +kernel
theorem dX4_step_154 : decode cX4_step 154 = .ok (.invokevirtual 34, 3) := by decide +kernel
theorem dX4_step_157 : decode cX4_step 157 = .ok (.aload_n 0, 1) := by decide +kernel
theorem dX4_step_158 : decode cX4_step 158 = .ok (.dup, 1) := by decide +kernel
theorem dX4_step_159 : decode cX4_step 159 = .ok (.getfield 30, 3) := by decide +kernel
theorem dX4_step_162 : decode cX4_step 162 = .ok (.iconst 1, 1) := by decide +kernel
theorem dX4_step_163 : decode cX4_step 163 = .ok (.iadd, 1) := by decide +kernel
theorem dX4_step_164 : decode cX4_step 164 = .ok (.putfield 30, 3) := by decide +kernel
theorem dX4_step_167 : decode cX4_step 167 = .ok (.aload_n 0, 1) := by decide +kernel
theorem dX4_step_168 : decode cX4_step 168 = .ok (.aload_n 0, 1) := by decide +kernel
theorem dX4_step_169 : decode cX4_step 169 = .ok (.getfield 30, 3) := by decide +kernel
theorem dX4_step_172 : decode cX4_step 172 = .ok (.putfield 38, 3) := by decide +kernel
theorem dX4_step_175 : decode cX4_step 175 = .ok (.aload_n 0, 1) := by decide +kernel
theorem dX4_step_176 : decode cX4_step 176 = .ok (.iload_n 1, 1) := by decide +kernel
theorem dX4_step_177 : decode cX4_step 177 = .ok (.invokevirtual 41, 3) := by decide +kernel
theorem dX4_step_180 : decode cX4_step 180 = .ok (.ireturn, 1) := by decide +kernel
theorem dX4_undo_0 : decode cX4_undo 0 = .ok (.aload_n 0, 1) := by decide +kernel
theorem dX4_undo_1 : decode cX4_undo 1 = .ok (.getfield 30, 3) := by decide +kernel
theorem dX4_undo_4 : decode cX4_undo 4 = .ok (.ifCond .ne 6, 3) := by decide +kernel
theorem dX4_undo_7 : decode cX4_undo 7 = .ok (.bipush (-2), 2) := by decide +kernel
theorem dX4_undo_9 : decode cX4_undo 9 = .ok (.ireturn, 1) := by decide +kernel
theorem dX4_undo_10 : decode cX4_undo 10 = .ok (.aload_n 0, 1) := by decide +kernel
theorem dX4_undo_11 : decode cX4_undo 11 = .ok (.dup, 1) := by decide +kernel
theorem dX4_undo_12 : decode cX4_undo 12 = .ok (.getfield 30, 3) := by decide +kernel
theorem dX4_undo_15 : decode cX4_undo 15 = .ok (.iconst 1, 1) := by decide +kernel
theorem dX4_undo_16 : decode cX4_undo 16 = .ok (.isub, 1) := by decide +kernel
theorem dX4_undo_17 : decode cX4_undo 17 = .ok (.putfield 30, 3) := by decide +kernel
theorem dX4_undo_20 : decode cX4_undo 20 = .ok (.aload_n 0, 1) := by decide +kernel
theorem dX4_undo_21 : decode cX4_undo 21 = .ok (.sipush 1008, 3) := by decide +kernel
theorem dX4_undo_24 : decode cX4_undo 24 = .ok (.sipush 144, 3) := by decide +kernel
theorem dX4_undo_27 : decode cX4_undo 27 = .ok (.aload_n 0, 1) := by decide +kernel
theorem dX4_undo_28 : decode cX4_undo 28 = .ok (.getfield 30, 3) := by decide +kernel
theorem dX4_undo_31 : decode cX4_undo 31 = .ok (.imul, 1) := by decide +kernel
theorem dX4_undo_32 : decode cX4_undo 32 = .ok (.iadd, 1) := by decide +kernel
theorem dX4_undo_33 : decode cX4_undo 33 = .ok (.sipush 144, 3) := by decide +kernel
theorem dX4_undo_36 : decode cX4_undo 36 = .ok (.aload_n 0, 1) := by decide +kernel
theorem dX4_undo_37 : decode cX4_undo 37 = .ok (.getfield 13, 3) := by decide +kernel
theorem dX4_undo_40 : decode cX4_undo 40 = .ok (.aload_n 0, 1) := by decide +kernel
theorem dX4_undo_41 : decode cX4_undo 41 = .ok (.getfield 30, 3) := by decide +kernel
theorem dX4_undo_44 : decode cX4_undo 44 = .ok (.iaload, 1) := by decide +kernel
theorem dX4_undo_45 : decode cX4_undo 45 = .ok (.imul, 1) := by decide +kernel
theorem dX4_undo_46 : decode cX4_undo 46 = .ok (.invokevirtual 34, 3) := by decide +kernel
theorem dX4_undo_49 : decode cX4_undo 49 = .ok (.aload_n 0, 1) := by decide +kernel
theorem dX4_undo_50 : decode cX4_undo 50 = .ok (.getfield 13, 3) := by decide +kernel
theorem dX4_undo_53 : decode cX4_undo 53 = .ok (.aload_n 0, 1) := by decide +kernel
theorem dX4_undo_54 : decode cX4_undo 54 = .ok (.getfield 30, 3) := by decide +kernel
theorem dX4_undo_57 : decode cX4_undo 57 = .ok (.iaload, 1) := by decide +kernel
theorem dX4_undo_58 : decode cX4_undo 58 = .ok (.ireturn, 1) := by decide +kernel
theorem dX4_redo_0 : decode cX4_redo 0 = .ok (.aload_n 0, 1) := by decide +kernel
theorem dX4_redo_1 : decode cX4_redo 1 = .ok (.getfield 30, 3) := by decide +kernel
theorem dX4_redo_4 : decode cX4_redo 4 = .ok (.aload_n 0, 1) := by decide +kernel
theorem dX4_redo_5 : decode cX4_redo 5 = .ok (.getfield 38, 3) := by decide +kernel
theorem dX4_redo_8 : decode cX4_redo 8 = .ok (.if_icmp .ne 6, 3) := by decide +kernel
theorem dX4_redo_11 : decode cX4_redo 11 = .ok (.bipush (-2), 2) := by decide +kernel
theorem dX4_redo_13 : decode cX4_redo 13 = .ok (.ireturn, 1) := by decide +kernel
theorem dX4_redo_14 : decode cX4_redo 14 = .ok (.aload_n 0, 1) := by decide +kernel
theorem dX4_redo_15 : decode cX4_redo 15 = .ok (.sipush 2736, 3) := by decide +kernel
theorem dX4_redo_18 : decode cX4_redo 18 = .ok (.sipush 144, 3) := by decide +kernel
theorem dX4_redo_21 : decode cX4_redo 21 = .ok (.aload_n 0, 1) := by decide +kernel
theorem dX4_redo_22 : decode cX4_redo 22 = .ok (.getfield 30, 3) := by decide +kernel
theorem dX4_redo_25 : decode cX4_redo 25 = .ok (.imul, 1) := by decide +kernel
theorem dX4_redo_26 : decode cX4_redo 26 = .ok (.iadd, 1) := by decide +kernel
theorem dX4_redo_27 : decode cX4_redo 27 = .ok (.sipush 144, 3) := by decide +kernel
theorem dX4_redo_30 : decode cX4_redo 30 = .ok (.aload_n 0, 1) := by decide +kernel
theorem dX4_redo_31 : decode cX4_redo 31 = .ok (.getfield 13, 3) := by decide +kernel
theorem dX4_redo_34 : decode cX4_redo 34 = .ok (.aload_n 0, 1) := by decide +kernel
theorem dX4_redo_35 : decode cX4_redo 35 = .ok (.getfield 30, 3) := by decide +kernel
theorem dX4_redo_38 : decode cX4_redo 38 = .ok (.iaload, 1) := by decide +kernel
theorem dX4_redo_39 : decode cX4_redo 39 = .ok (.imul, 1) := by decide +kernel
theorem dX4_redo_40 : decode cX4_redo 40 = .ok (.invokevirtual 34, 3) := by decide +kernel
theorem dX4_redo_43 : decode cX4_redo 43 = .ok (.aload_n 0, 1) := by decide +kernel
theorem dX4_redo_44 : decode cX4_redo 44 = .ok (.dup, 1) := by decide +kernel
theorem dX4_redo_45 : decode cX4_redo 45 = .ok (.getfield 30, 3) := by decide +kernel
theorem dX4_redo_48 : decode cX4_redo 48 = .ok (.iconst 1, 1) := by decide +kernel
theorem dX4_redo_49 : decode cX4_redo 49 = .ok (.iadd, 1) := by decide +kernel
theorem dX4_redo_50 : decode cX4_redo 50 = .ok (.putfield 30, 3) := by decide +kernel
theorem dX4_redo_53 : decode cX4_redo 53 = .ok (.aload_n 0, 1) := by decide +kernel
theorem dX4_redo_54 : decode cX4_redo 54 = .ok (.getfield 13, 3) := by decide +kernel
theorem dX4_redo_57 : decode cX4_redo 57 = .ok (.aload_n 0, 1) := by decide +kernel
theorem dX4_redo_58 : decode cX4_redo 58 = .ok (.getfield 30, 3) := by decide +kernel
theorem dX4_redo_61 : decode cX4_redo 61 = .ok (.iconst 1, 1) := by decide +kernel
theorem dX4_redo_62 : decode cX4_redo 62 = .ok (.isub, 1) := by decide +kernel
theorem dX4_redo_63 : decode cX4_redo 63 = .ok (.iaload, 1) := by decide +kernel
theorem dX4_redo_64 : decode cX4_redo 64 = .ok (.ireturn, 1) := by decide +kernel
theorem dX4_box_0 : decode cX4_box 0 = .ok (.iload_n 1, 1) := by decide +kernel
theorem dX4_box_1 : decode cX4_box 1 = .ok (.invokestatic 45, 3) := by decide +kernel
theorem dX4_box_4 : decode cX4_box 4 = .ok (.ifCond .ne 5, 3) := by decide +kernel
theorem dX4_box_7 : decode cX4_box 7 = .ok (.iconst (-1), 1) := by decide +kernel
theorem dX4_box_8 : decode cX4_box 8 = .ok (.ireturn, 1) := by decide +kernel
theorem dX4_box_9 : decode cX4_box 9 = .ok (.iload_n 2, 1) := by decide +kernel
theorem dX4_box_10 : decode cX4_box 10 = .ok (.bipush 12, 2) := by decide +kernel
theorem dX4_box_12 : decode cX4_box 12 = .ok (.invokestatic 22, 3) := by decide +kernel
theorem dX4_box_15 : decode cX4_box 15 = .ok (.ifCond .eq 90, 3) := by decide +kernel
theorem dX4_box_18 : decode cX4_box 18 = .ok (.iload_n 3, 1) := by decide +kernel
theorem dX4_box_19 : decode cX4_box 19 = .ok (.bipush 12, 2) := by decide +kernel
theorem dX4_box_21 : decode cX4_box 21 = .ok (.invokestatic 22, 3) := by decide +kernel
theorem dX4_box_24 : decode cX4_box 24 = .ok (.ifCond .eq 81, 3) := by decide +kernel
theorem dX4_box_27 : decode cX4_box 27 = .ok (.iload 4, 2) := by decide +kernel
theorem dX4_box_29 : decode cX4_box 29 = .ok (.bipush 12, 2) := by decide +kernel
theorem dX4_box_31 : decode cX4_box 31 = .ok (.invokestatic 22, 3) := by decide +kernel
theorem dX4_box_34 : decode cX4_box 34 = .ok (.ifCond .eq 71, 3) := by decide +kernel
theorem dX4_box_37 : decode cX4_box 37 = .ok (.iload 5, 2) := by decide +kernel
theorem dX4_box_39 : decode cX4_box 39 = .ok (.ifCond .le 66, 3) := by decide +kernel
theorem dX4_box_42 : decode cX4_box 42 = .ok (.iload 6, 2) := by decide +kernel
theorem dX4_box_44 : decode cX4_box 44 = .ok (.ifCond .le 61, 3) := by decide +kernel
theorem dX4_box_47 : decode cX4_box 47 = .ok (.iload 7, 2) := by decide +kernel
theorem dX4_box_49 : decode cX4_box 49 = .ok (.ifCond .le 56, 3) := by decide +kernel
theorem dX4_box_52 : decode cX4_box 52 = .ok (.iload 5, 2) := by decide +kernel
theorem dX4_box_54 : decode cX4_box 54 = .ok (.bipush 12, 2) := by decide +kernel
theorem dX4_box_56 : decode cX4_box 56 = .ok (.if_icmp .gt 49, 3) := by decide +kernel
theorem dX4_box_59 : decode cX4_box 59 = .ok (.iload 6, 2) := by decide +kernel
theorem dX4_box_61 : decode cX4_box 61 = .ok (.bipush 12, 2) := by decide +kernel
theorem dX4_box_63 : decode cX4_box 63 = .ok (.if_icmp .gt 42, 3) := by decide +kernel
theorem dX4_box_66 : decode cX4_box 66 = .ok (.iload 7, 2) := by decide +kernel
theorem dX4_box_68 : decode cX4_box 68 = .ok (.bipush 12, 2) := by decide +kernel
theorem dX4_box_70 : decode cX4_box 70 = .ok (.if_icmp .gt 35, 3) := by decide +kernel
theorem dX4_box_73 : decode cX4_box 73 = .ok (.iload_n 2, 1) := by decide +kernel
theorem dX4_box_74 : decode cX4_box 74 = .ok (.iload 5, 2) := by decide +kernel
theorem dX4_box_76 : decode cX4_box 76 = .ok (.iadd, 1) := by decide +kernel
theorem dX4_box_77 : decode cX4_box 77 = .ok (.bipush 12, 2) := by decide +kernel
theorem dX4_box_79 : decode cX4_box 79 = .ok (.if_icmp .gt 26, 3) := by decide +kernel
theorem dX4_box_82 : decode cX4_box 82 = .ok (.iload_n 3, 1) := by decide +kernel
theorem dX4_box_83 : decode cX4_box 83 = .ok (.iload 6, 2) := by decide +kernel
theorem dX4_box_85 : decode cX4_box 85 = .ok (.iadd, 1) := by decide +kernel
theorem dX4_box_86 : decode cX4_box 86 = .ok (.bipush 12, 2) := by decide +kernel
theorem dX4_box_88 : decode cX4_box 88 = .ok (.if_icmp .gt 17, 3) := by decide +kernel
theorem dX4_box_91 : decode cX4_box 91 = .ok (.iload 4, 2) := by decide +kernel
theorem dX4_box_93 : decode cX4_box 93 = .ok (.iload 7, 2) := by decide +kernel
theorem dX4_box_95 : decode cX4_box 95 = .ok (.iadd, 1) := by decide +kernel
theorem dX4_box_96 : decode cX4_box 96 = .ok (.bipush 12, 2) := by decide +kernel
theorem dX4_box_98 : decode cX4_box 98 = .ok (.if_icmp .gt 7, 3) := by decide +kernel
theorem dX4_box_101 : decode cX4_box 101 = .ok (.iconst 1, 1) := by decide +kernel
theorem dX4_box_102 : decode cX4_box 102 = .ok (.goto 4, 3) := by decide +kernel
theorem dX4_box_105 : decode cX4_box 105 = .ok (.iconst 0, 1) := by decide +kernel
theorem dX4_box_106 : decode cX4_box 106 = .ok (.istore 8, 2) := by decide +kernel
theorem dX4_box_108 : decode cX4_box 108 = .ok (.iload 8, 2) := by decide +kernel
theorem dX4_box_110 : decode cX4_box 110 = .ok (.ifCond .ne 6, 3) := by decide +kernel
theorem dX4_box_113 : decode cX4_box 113 = .ok (.bipush (-2), 2) := by decide +kernel
theorem dX4_box_115 : decode cX4_box 115 = .ok (.ireturn, 1) := by decide +kernel
theorem dX4_box_116 : decode cX4_box 116 = .ok (.aload_n 0, 1) := by decide +kernel
theorem dX4_box_117 : decode cX4_box 117 = .ok (.invokevirtual 49, 3) := by decide +kernel
theorem dX4_box_120 : decode cX4_box 120 = .ok (.iconst 0, 1) := by decide +kernel
theorem dX4_box_121 : decode cX4_box 121 = .ok (.istore 9, 2) := by decide +kernel
theorem dX4_box_123 : decode cX4_box 123 = .ok (.iload 9, 2) := by decide +kernel
theorem dX4_box_125 : decode cX4_box 125 = .ok (.iload 5, 2) := by decide +kernel
theorem dX4_box_127 : decode cX4_box 127 = .ok (.iload 6, 2) := by decide +kernel
theorem dX4_box_129 : decode cX4_box 129 = .ok (.imul, 1) := by decide +kernel
theorem dX4_box_130 : decode cX4_box 130 = .ok (.iload 7, 2) := by decide +kernel
theorem dX4_box_132 : decode cX4_box 132 = .ok (.imul, 1) := by decide +kernel
theorem dX4_box_133 : decode cX4_box 133 = .ok (.if_icmp .ge 41, 3) := by decide +kernel
theorem dX4_box_136 : decode cX4_box 136 = .ok (.aload_n 0, 1) := by decide +kernel
theorem dX4_box_137 : decode cX4_box 137 = .ok (.iload_n 2, 1) := by decide +kernel
theorem dX4_box_138 : decode cX4_box 138 = .ok (.iload 9, 2) := by decide +kernel
theorem dX4_box_140 : decode cX4_box 140 = .ok (.iload 5, 2) := by decide +kernel
theorem dX4_box_142 : decode cX4_box 142 = .ok (.irem, 1) := by decide +kernel
theorem dX4_box_143 : decode cX4_box 143 = .ok (.iadd, 1) := by decide +kernel
theorem dX4_box_144 : decode cX4_box 144 = .ok (.iload_n 3, 1) := by decide +kernel
theorem dX4_box_145 : decode cX4_box 145 = .ok (.iload 9, 2) := by decide +kernel
theorem dX4_box_147 : decode cX4_box 147 = .ok (.iload 5, 2) := by decide +kernel
theorem dX4_box_149 : decode cX4_box 149 = .ok (.idiv, 1) := by decide +kernel
theorem dX4_box_150 : decode cX4_box 150 = .ok (.iload 6, 2) := by decide +kernel
theorem dX4_box_152 : decode cX4_box 152 = .ok (.irem, 1) := by decide +kernel
theorem dX4_box_153 : decode cX4_box 153 = .ok (.iadd, 1) := by decide +kernel
theorem dX4_box_154 : decode cX4_box 154 = .ok (.iload 4, 2) := by decide +kernel
theorem dX4_box_156 : decode cX4_box 156 = .ok (.iload 9, 2) := by decide +kernel
theorem dX4_box_158 : decode cX4_box 158 = .ok (.iload 5, 2) := by decide +kernel
theorem dX4_box_160 : decode cX4_box 160 = .ok (.idiv, 1) := by decide +kernel
theorem dX4_box_161 : decode cX4_box 161 = .ok (.iload 6, 2) := by decide +kernel
theorem dX4_box_163 : decode cX4_box 163 = .ok (.idiv, 1) := by decide +kernel
theorem dX4_box_164 : decode cX4_box 164 = .ok (.iadd, 1) := by decide +kernel
theorem dX4_box_165 : decode cX4_box 165 = .ok (.invokevirtual 52, 3) := by decide +kernel
theorem dX4_box_168 : decode cX4_box 168 = .ok (.iinc 9 1, 3) := by decide +kernel
theorem dX4_box_171 : decode cX4_box 171 = .ok (.goto (-48), 3) := by decide +kernel
theorem dX4_box_174 : decode cX4_box 174 = .ok (.aload_n 0, 1) := by decide +kernel
theorem dX4_box_175 : decode cX4_box 175 = .ok (.iload_n 1, 1) := by decide +kernel
theorem dX4_box_176 : decode cX4_box 176 = .ok (.invokevirtual 56, 3) := by decide +kernel
theorem dX4_box_179 : decode cX4_box 179 = .ok (.ireturn, 1) := by decide +kernel
theorem dX4_join_0 : decode cX4_join 0 = .ok (.iload_n 1, 1) := by decide +kernel
theorem dX4_join_1 : decode cX4_join 1 = .ok (.invokestatic 45, 3) := by decide +kernel
theorem dX4_join_4 : decode cX4_join 4 = .ok (.ifCond .eq 28, 3) := by decide +kernel
theorem dX4_join_7 : decode cX4_join 7 = .ok (.iload_n 2, 1) := by decide +kernel
theorem dX4_join_8 : decode cX4_join 8 = .ok (.invokestatic 45, 3) := by decide +kernel
theorem dX4_join_11 : decode cX4_join 11 = .ok (.ifCond .eq 21, 3) := by decide +kernel
theorem dX4_join_14 : decode cX4_join 14 = .ok (.iload_n 3, 1) := by decide +kernel
theorem dX4_join_15 : decode cX4_join 15 = .ok (.invokestatic 45, 3) := by decide +kernel
theorem dX4_join_18 : decode cX4_join 18 = .ok (.ifCond .eq 14, 3) := by decide +kernel
theorem dX4_join_21 : decode cX4_join 21 = .ok (.iload 4, 2) := by decide +kernel
theorem dX4_join_23 : decode cX4_join 23 = .ok (.ifCond .lt 9, 3) := by decide +kernel
theorem dX4_join_26 : decode cX4_join 26 = .ok (.iload 4, 2) := by decide +kernel
theorem dX4_join_28 : decode cX4_join 28 = .ok (.iconst 3, 1) := by decide +kernel
theorem dX4_join_29 : decode cX4_join 29 = .ok (.if_icmp .le 5, 3) := by decide +kernel
theorem dX4_join_32 : decode cX4_join 32 = .ok (.iconst (-1), 1) := by decide +kernel
theorem dX4_join_33 : decode cX4_join 33 = .ok (.ireturn, 1) := by decide +kernel
theorem dX4_join_34 : decode cX4_join 34 = .ok (.aload_n 0, 1) := by decide +kernel
theorem dX4_join_35 : decode cX4_join 35 = .ok (.invokevirtual 49, 3) := by decide +kernel
theorem dX4_join_38 : decode cX4_join 38 = .ok (.iconst 0, 1) := by decide +kernel
theorem dX4_join_39 : decode cX4_join 39 = .ok (.istore 5, 2) := by decide +kernel
theorem dX4_join_41 : decode cX4_join 41 = .ok (.iload 5, 2) := by decide +kernel
theorem dX4_join_43 : decode cX4_join 43 = .ok (.sipush 1728, 3) := by decide +kernel
theorem dX4_join_46 : decode cX4_join 46 = .ok (.if_icmp .ge 174, 3) := by decide +kernel
theorem dX4_join_49 : decode cX4_join 49 = .ok (.aload_n 0, 1) := by decide +kernel
theorem dX4_join_50 : decode cX4_join 50 = .ok (.iload_n 2, 1) := by decide +kernel
theorem dX4_join_51 : decode cX4_join 51 = .ok (.iload 5, 2) := by decide +kernel
theorem dX4_join_53 : decode cX4_join 53 = .ok (.sipush 144, 3) := by decide +kernel
theorem dX4_join_56 : decode cX4_join 56 = .ok (.idiv, 1) := by decide +kernel
theorem dX4_join_57 : decode cX4_join 57 = .ok (.iload 5, 2) := by decide +kernel
theorem dX4_join_59 : decode cX4_join 59 = .ok (.bipush 12, 2) := by decide +kernel
theorem dX4_join_61 : decode cX4_join 61 = .ok (.idiv, 1) := by decide +kernel
theorem dX4_join_62 : decode cX4_join 62 = .ok (.bipush 12, 2) := by decide +kernel
theorem dX4_join_64 : decode cX4_join 64 = .ok (.irem, 1) := by decide +kernel
theorem dX4_join_65 : decode cX4_join 65 = .ok (.iload 5, 2) := by decide +kernel
theorem dX4_join_67 : decode cX4_join 67 = .ok (.bipush 12, 2) := by decide +kernel
theorem dX4_join_69 : decode cX4_join 69 = .ok (.irem, 1) := by decide +kernel
theorem dX4_join_70 : decode cX4_join 70 = .ok (.invokevirtual 26, 3) := by decide +kernel
theorem dX4_join_73 : decode cX4_join 73 = .ok (.istore 6, 2) := by decide +kernel
theorem dX4_join_75 : decode cX4_join 75 = .ok (.aload_n 0, 1) := by decide +kernel
theorem dX4_join_76 : decode cX4_join 76 = .ok (.iload_n 3, 1) := by decide +kernel
theorem dX4_join_77 : decode cX4_join 77 = .ok (.iload 5, 2) := by decide +kernel
theorem dX4_join_79 : decode cX4_join 79 = .ok (.sipush 144, 3) := by decide +kernel
theorem dX4_join_82 : decode cX4_join 82 = .ok (.idiv, 1) := by decide +kernel
theorem dX4_join_83 : decode cX4_join 83 = .ok (.iload 5, 2) := by decide +kernel
theorem dX4_join_85 : decode cX4_join 85 = .ok (.bipush 12, 2) := by decide +kernel
theorem dX4_join_87 : decode cX4_join 87 = .ok (.idiv, 1) := by decide +kernel
theorem dX4_join_88 : decode cX4_join 88 = .ok (.bipush 12, 2) := by decide +kernel
theorem dX4_join_90 : decode cX4_join 90 = .ok (.irem, 1) := by decide +kernel
theorem dX4_join_91 : decode cX4_join 91 = .ok (.iload 5, 2) := by decide +kernel
theorem dX4_join_93 : decode cX4_join 93 = .ok (.bipush 12, 2) := by decide +kernel
theorem dX4_join_95 : decode cX4_join 95 = .ok (.irem, 1) := by decide +kernel
theorem dX4_join_96 : decode cX4_join 96 = .ok (.invokevirtual 26, 3) := by decide +kernel
theorem dX4_join_99 : decode cX4_join 99 = .ok (.istore 7, 2) := by decide +kernel
theorem dX4_join_101 : decode cX4_join 101 = .ok (.iload 4, 2) := by decide +kernel
theorem dX4_join_103 : decode cX4_join 103 = .ok (.ifCond .ne 21, 3) := by decide +kernel
theorem dX4_join_106 : decode cX4_join 106 = .ok (.iload 6, 2) := by decide +kernel
theorem dX4_join_108 : decode cX4_join 108 = .ok (.ifCond .ne 8, 3) := by decide +kernel
theorem dX4_join_111 : decode cX4_join 111 = .ok (.iload 7, 2) := by decide +kernel
theorem dX4_join_113 : decode cX4_join 113 = .ok (.ifCond .eq 7, 3) := by decide +kernel
theorem dX4_join_116 : decode cX4_join 116 = .ok (.iconst 1, 1) := by decide +kernel
theorem dX4_join_117 : decode cX4_join 117 = .ok (.goto 67, 3) := by decide +kernel
theorem dX4_join_120 : decode cX4_join 120 = .ok (.iconst 0, 1) := by decide +kernel
theorem dX4_join_121 : decode cX4_join 121 = .ok (.goto 63, 3) := by decide +kernel
theorem dX4_join_124 : decode cX4_join 124 = .ok (.iload 4, 2) := by decide +kernel
theorem dX4_join_126 : decode cX4_join 126 = .ok (.iconst 1, 1) := by decide +kernel
theorem dX4_join_127 : decode cX4_join 127 = .ok (.if_icmp .ne 21, 3) := by decide +kernel
theorem dX4_join_130 : decode cX4_join 130 = .ok (.iload 6, 2) := by decide +kernel
theorem dX4_join_132 : decode cX4_join 132 = .ok (.ifCond .eq 12, 3) := by decide +kernel
theorem dX4_join_135 : decode cX4_join 135 = .ok (.iload 7, 2) := by decide +kernel
theorem dX4_join_137 : decode cX4_join 137 = .ok (.ifCond .eq 7, 3) := by decide +kernel
theorem dX4_join_140 : decode cX4_join 140 = .ok (.iconst 1, 1) := by decide +kernel
theorem dX4_join_141 : decode cX4_join 141 = .ok (.goto 43, 3) := by decide +kernel
theorem dX4_join_144 : decode cX4_join 144 = .ok (.iconst 0, 1) := by decide +kernel
theorem dX4_join_145 : decode cX4_join 145 = .ok (.goto 39, 3) := by decide +kernel
theorem dX4_join_148 : decode cX4_join 148 = .ok (.iload 4, 2) := by decide +kernel
theorem dX4_join_150 : decode cX4_join 150 = .ok (.iconst 2, 1) := by decide +kernel
theorem dX4_join_151 : decode cX4_join 151 = .ok (.if_icmp .ne 21, 3) := by decide +kernel
theorem dX4_join_154 : decode cX4_join 154 = .ok (.iload 6, 2) := by decide +kernel
theorem dX4_join_156 : decode cX4_join 156 = .ok (.ifCond .eq 12, 3) := by decide +kernel
theorem dX4_join_159 : decode cX4_join 159 = .ok (.iload 7, 2) := by decide +kernel
theorem dX4_join_161 : decode cX4_join 161 = .ok (.ifCond .ne 7, 3) := by decide +kernel
theorem dX4_join_164 : decode cX4_join 164 = .ok (.iconst 1, 1) := by decide +kernel
theorem dX4_join_165 : decode cX4_join 165 = .ok (.goto 19, 3) := by decide +kernel
theorem dX4_join_168 : decode cX4_join 168 = .ok (.iconst 0, 1) := by decide +kernel
theorem dX4_join_169 : decode cX4_join 169 = .ok (.goto 15, 3) := by decide +kernel
theorem dX4_join_172 : decode cX4_join 172 = .ok (.iload 6, 2) := by decide +kernel
theorem dX4_join_174 : decode cX4_join 174 = .ok (.iload 7, 2) := by decide +kernel
theorem dX4_join_176 : decode cX4_join 176 = .ok (.if_icmp .eq 7, 3) := by decide +kernel
theorem dX4_join_179 : decode cX4_join 179 = .ok (.iconst 1, 1) := by decide +kernel
theorem dX4_join_180 : decode cX4_join 180 = .ok (.goto 4, 3) := by decide +kernel
theorem dX4_join_183 : decode cX4_join 183 = .ok (.iconst 0, 1) := by decide +kernel
theorem dX4_join_184 : decode cX4_join 184 = .ok (.istore 8, 2) := by decide +kernel
theorem dX4_join_186 : decode cX4_join 186 = .ok (.iload 8, 2) := by decide +kernel
theorem dX4_join_188 : decode cX4_join 188 = .ok (.ifCond .eq 26, 3) := by decide +kernel
theorem dX4_join_191 : decode cX4_join 191 = .ok (.aload_n 0, 1) := by decide +kernel
theorem dX4_join_192 : decode cX4_join 192 = .ok (.iload 5, 2) := by decide +kernel
theorem dX4_join_194 : decode cX4_join 194 = .ok (.sipush 144, 3) := by decide +kernel
theorem dX4_join_197 : decode cX4_join 197 = .ok (.idiv, 1) := by decide +kernel
theorem dX4_join_198 : decode cX4_join 198 = .ok (.iload 5, 2) := by decide +kernel
theorem dX4_join_200 : decode cX4_join 200 = .ok (.bipush 12, 2) := by decide +kernel
theorem dX4_join_202 : decode cX4_join 202 = .ok (.idiv, 1) := by decide +kernel
theorem dX4_join_203 : decode cX4_join 203 = .ok (.bipush 12, 2) := by decide +kernel
theorem dX4_join_205 : decode cX4_join 205 = .ok (.irem, 1) := by decide +kernel
theorem dX4_join_206 : decode cX4_join 206 = .ok (.iload 5, 2) := by decide +kernel
theorem dX4_join_208 : decode cX4_join 208 = .ok (.bipush 12, 2) := by decide +kernel
theorem dX4_join_210 : decode cX4_join 210 = .ok (.irem, 1) := by decide +kernel
theorem dX4_join_211 : decode cX4_join 211 = .ok (.invokevirtual 52, 3) := by decide +kernel
theorem dX4_join_214 : decode cX4_join 214 = .ok (.iinc 5 1, 3) := by decide +kernel
theorem dX4_join_217 : decode cX4_join 217 = .ok (.goto (-176), 3) := by decide +kernel
theorem dX4_join_220 : decode cX4_join 220 = .ok (.aload_n 0, 1) := by decide +kernel
theorem dX4_join_221 : decode cX4_join 221 = .ok (.iload_n 1, 1) := by decide +kernel
theorem dX4_join_222 : decode cX4_join 222 = .ok (.invokevirtual 56, 3) := by decide +kernel
theorem dX4_join_225 : decode cX4_join 225 = .ok (.ireturn, 1) := by decide +kernel
theorem dX4_turn_0 : decode cX4_turn 0 = .ok (.iload_n 1, 1) := by decide +kernel
theorem dX4_turn_1 : decode cX4_turn 1 = .ok (.invokestatic 45, 3) := by decide +kernel
theorem dX4_turn_4 : decode cX4_turn 4 = .ok (.ifCond .eq 10, 3) := by decide +kernel
theorem dX4_turn_7 : decode cX4_turn 7 = .ok (.iload_n 2, 1) := by decide +kernel
theorem dX4_turn_8 : decode cX4_turn 8 = .ok (.invokestatic 59, 3) := by decide +kernel
theorem dX4_turn_11 : decode cX4_turn 11 = .ok (.ifCond .ne 5, 3) := by decide +kernel
theorem dX4_turn_14 : decode cX4_turn 14 = .ok (.iconst (-1), 1) := by decide +kernel
theorem dX4_turn_15 : decode cX4_turn 15 = .ok (.ireturn, 1) := by decide +kernel
theorem dX4_turn_16 : decode cX4_turn 16 = .ok (.aload_n 0, 1) := by decide +kernel
theorem dX4_turn_17 : decode cX4_turn 17 = .ok (.invokevirtual 49, 3) := by decide +kernel
theorem dX4_turn_20 : decode cX4_turn 20 = .ok (.iconst 0, 1) := by decide +kernel
theorem dX4_turn_21 : decode cX4_turn 21 = .ok (.istore_n 3, 1) := by decide +kernel
theorem dX4_turn_22 : decode cX4_turn 22 = .ok (.iload_n 3, 1) := by decide +kernel
theorem dX4_turn_23 : decode cX4_turn 23 = .ok (.sipush 1728, 3) := by decide +kernel
theorem dX4_turn_26 : decode cX4_turn 26 = .ok (.if_icmp .ge 105, 3) := by decide +kernel
theorem dX4_turn_29 : decode cX4_turn 29 = .ok (.iload_n 3, 1) := by decide +kernel
theorem dX4_turn_30 : decode cX4_turn 30 = .ok (.sipush 144, 3) := by decide +kernel
theorem dX4_turn_33 : decode cX4_turn 33 = .ok (.idiv, 1) := by decide +kernel
theorem dX4_turn_34 : decode cX4_turn 34 = .ok (.istore 4, 2) := by decide +kernel
theorem dX4_turn_36 : decode cX4_turn 36 = .ok (.iload_n 3, 1) := by decide +kernel
theorem dX4_turn_37 : decode cX4_turn 37 = .ok (.bipush 12, 2) := by decide +kernel
theorem dX4_turn_39 : decode cX4_turn 39 = .ok (.idiv, 1) := by decide +kernel
theorem dX4_turn_40 : decode cX4_turn 40 = .ok (.bipush 12, 2) := by decide +kernel
theorem dX4_turn_42 : decode cX4_turn 42 = .ok (.irem, 1) := by decide +kernel
theorem dX4_turn_43 : decode cX4_turn 43 = .ok (.istore 5, 2) := by decide +kernel
theorem dX4_turn_45 : decode cX4_turn 45 = .ok (.iload_n 3, 1) := by decide +kernel
theorem dX4_turn_46 : decode cX4_turn 46 = .ok (.bipush 12, 2) := by decide +kernel
theorem dX4_turn_48 : decode cX4_turn 48 = .ok (.irem, 1) := by decide +kernel
theorem dX4_turn_49 : decode cX4_turn 49 = .ok (.istore 6, 2) := by decide +kernel
theorem dX4_turn_51 : decode cX4_turn 51 = .ok (.iload_n 2, 1) := by decide +kernel
theorem dX4_turn_52 : decode cX4_turn 52 = .ok (.ifCond .ne 20, 3) := by decide +kernel
theorem dX4_turn_55 : decode cX4_turn 55 = .ok (.aload_n 0, 1) := by decide +kernel
theorem dX4_turn_56 : decode cX4_turn 56 = .ok (.iload_n 1, 1) := by decide +kernel
theorem dX4_turn_57 : decode cX4_turn 57 = .ok (.iload 4, 2) := by decide +kernel
theorem dX4_turn_59 : decode cX4_turn 59 = .ok (.iload 6, 2) := by decide +kernel
theorem dX4_turn_61 : decode cX4_turn 61 = .ok (.bipush 11, 2) := by decide +kernel
theorem dX4_turn_63 : decode cX4_turn 63 = .ok (.iload 5, 2) := by decide +kernel
theorem dX4_turn_65 : decode cX4_turn 65 = .ok (.isub, 1) := by decide +kernel
theorem dX4_turn_66 : decode cX4_turn 66 = .ok (.invokevirtual 26, 3) := by decide +kernel
theorem dX4_turn_69 : decode cX4_turn 69 = .ok (.goto 39, 3) := by decide +kernel
theorem dX4_turn_72 : decode cX4_turn 72 = .ok (.iload_n 2, 1) := by decide +kernel
theorem dX4_turn_73 : decode cX4_turn 73 = .ok (.iconst 1, 1) := by decide +kernel
theorem dX4_turn_74 : decode cX4_turn 74 = .ok (.if_icmp .ne 20, 3) := by decide +kernel
theorem dX4_turn_77 : decode cX4_turn 77 = .ok (.aload_n 0, 1) := by decide +kernel
theorem dX4_turn_78 : decode cX4_turn 78 = .ok (.iload_n 1, 1) := by decide +kernel
theorem dX4_turn_79 : decode cX4_turn 79 = .ok (.bipush 11, 2) := by decide +kernel
theorem dX4_turn_81 : decode cX4_turn 81 = .ok (.iload 6, 2) := by decide +kernel
theorem dX4_turn_83 : decode cX4_turn 83 = .ok (.isub, 1) := by decide +kernel
theorem dX4_turn_84 : decode cX4_turn 84 = .ok (.iload 5, 2) := by decide +kernel
theorem dX4_turn_86 : decode cX4_turn 86 = .ok (.iload 4, 2) := by decide +kernel
theorem dX4_turn_88 : decode cX4_turn 88 = .ok (.invokevirtual 26, 3) := by decide +kernel
theorem dX4_turn_91 : decode cX4_turn 91 = .ok (.goto 17, 3) := by decide +kernel
theorem dX4_turn_94 : decode cX4_turn 94 = .ok (.aload_n 0, 1) := by decide +kernel
theorem dX4_turn_95 : decode cX4_turn 95 = .ok (.iload_n 1, 1) := by decide +kernel
theorem dX4_turn_96 : decode cX4_turn 96 = .ok (.iload 5, 2) := by decide +kernel
theorem dX4_turn_98 : decode cX4_turn 98 = .ok (.bipush 11, 2) := by decide +kernel
theorem dX4_turn_100 : decode cX4_turn 100 = .ok (.iload 4, 2) := by decide +kernel
theorem dX4_turn_102 : decode cX4_turn 102 = .ok (.isub, 1) := by decide +kernel
theorem dX4_turn_103 : decode cX4_turn 103 = .ok (.iload 6, 2) := by decide +kernel
theorem dX4_turn_105 : decode cX4_turn 105 = .ok (.invokevirtual 26, 3) := by decide +kernel
theorem dX4_turn_108 : decode cX4_turn 108 = .ok (.istore 7, 2) := by decide +kernel
theorem dX4_turn_110 : decode cX4_turn 110 = .ok (.iload 7, 2) := by decide +kernel
theorem dX4_turn_112 : decode cX4_turn 112 = .ok (.ifCond .eq 13, 3) := by decide +kernel
theorem dX4_turn_115 : decode cX4_turn 115 = .ok (.aload_n 0, 1) := by decide +kernel
theorem dX4_turn_116 : decode cX4_turn 116 = .ok (.iload 4, 2) := by decide +kernel
theorem dX4_turn_118 : decode cX4_turn 118 = .ok (.iload 5, 2) := by decide +kernel
theorem dX4_turn_120 : decode cX4_turn 120 = .ok (.iload 6, 2) := by decide +kernel
theorem dX4_turn_122 : decode cX4_turn 122 = .ok (.invokevirtual 52, 3) := by decide +kernel
theorem dX4_turn_125 : decode cX4_turn 125 = .ok (.iinc 3 1, 3) := by decide +kernel
theorem dX4_turn_128 : decode cX4_turn 128 = .ok (.goto (-106), 3) := by decide +kernel
theorem dX4_turn_131 : decode cX4_turn 131 = .ok (.aload_n 0, 1) := by decide +kernel
theorem dX4_turn_132 : decode cX4_turn 132 = .ok (.iload_n 1, 1) := by decide +kernel
theorem dX4_turn_133 : decode cX4_turn 133 = .ok (.invokevirtual 56, 3) := by decide +kernel
theorem dX4_turn_136 : decode cX4_turn 136 = .ok (.ireturn, 1) := by decide +kernel
theorem dX4_mirror_0 : decode cX4_mirror 0 = .ok (.iload_n 1, 1) := by decide +kernel
theorem dX4_mirror_1 : decode cX4_mirror 1 = .ok (.invokestatic 45, 3) := by decide +kernel
theorem dX4_mirror_4 : decode cX4_mirror 4 = .ok (.ifCond .eq 10, 3) := by decide +kernel
theorem dX4_mirror_7 : decode cX4_mirror 7 = .ok (.iload_n 2, 1) := by decide +kernel
theorem dX4_mirror_8 : decode cX4_mirror 8 = .ok (.invokestatic 59, 3) := by decide +kernel
theorem dX4_mirror_11 : decode cX4_mirror 11 = .ok (.ifCond .ne 5, 3) := by decide +kernel
theorem dX4_mirror_14 : decode cX4_mirror 14 = .ok (.iconst (-1), 1) := by decide +kernel
theorem dX4_mirror_15 : decode cX4_mirror 15 = .ok (.ireturn, 1) := by decide +kernel
theorem dX4_mirror_16 : decode cX4_mirror 16 = .ok (.aload_n 0, 1) := by decide +kernel
theorem dX4_mirror_17 : decode cX4_mirror 17 = .ok (.invokevirtual 49, 3) := by decide +kernel
theorem dX4_mirror_20 : decode cX4_mirror 20 = .ok (.iconst 0, 1) := by decide +kernel
theorem dX4_mirror_21 : decode cX4_mirror 21 = .ok (.istore_n 3, 1) := by decide +kernel
theorem dX4_mirror_22 : decode cX4_mirror 22 = .ok (.iload_n 3, 1) := by decide +kernel
theorem dX4_mirror_23 : decode cX4_mirror 23 = .ok (.sipush 1728, 3) := by decide +kernel
theorem dX4_mirror_26 : decode cX4_mirror 26 = .ok (.if_icmp .ge 93, 3) := by decide +kernel
theorem dX4_mirror_29 : decode cX4_mirror 29 = .ok (.iload_n 3, 1) := by decide +kernel
theorem dX4_mirror_30 : decode cX4_mirror 30 = .ok (.sipush 144, 3) := by decide +kernel
theorem dX4_mirror_33 : decode cX4_mirror 33 = .ok (.idiv, 1) := by decide +kernel
theorem dX4_mirror_34 : decode cX4_mirror 34 = .ok (.istore 4, 2) := by decide +kernel
theorem dX4_mirror_36 : decode cX4_mirror 36 = .ok (.iload_n 3, 1) := by decide +kernel
theorem dX4_mirror_37 : decode cX4_mirror 37 = .ok (.bipush 12, 2) := by decide +kernel
theorem dX4_mirror_39 : decode cX4_mirror 39 = .ok (.idiv, 1) := by decide +kernel
theorem dX4_mirror_40 : decode cX4_mirror 40 = .ok (.bipush 12, 2) := by decide +kernel
theorem dX4_mirror_42 : decode cX4_mirror 42 = .ok (.irem, 1) := by decide +kernel
theorem dX4_mirror_43 : decode cX4_mirror 43 = .ok (.istore 5, 2) := by decide +kernel
theorem dX4_mirror_45 : decode cX4_mirror 45 = .ok (.iload_n 3, 1) := by decide +kernel
theorem dX4_mirror_46 : decode cX4_mirror 46 = .ok (.bipush 12, 2) := by decide +kernel
theorem dX4_mirror_48 : decode cX4_mirror 48 = .ok (.irem, 1) := by decide +kernel
theorem dX4_mirror_49 : decode cX4_mirror 49 = .ok (.istore 6, 2) := by decide +kernel
theorem dX4_mirror_51 : decode cX4_mirror 51 = .ok (.aload_n 0, 1) := by decide +kernel
theorem dX4_mirror_52 : decode cX4_mirror 52 = .ok (.iload_n 1, 1) := by decide +kernel
theorem dX4_mirror_53 : decode cX4_mirror 53 = .ok (.iload_n 2, 1) := by decide +kernel
theorem dX4_mirror_54 : decode cX4_mirror 54 = .ok (.ifCond .ne 11, 3) := by decide +kernel
theorem dX4_mirror_57 : decode cX4_mirror 57 = .ok (.bipush 11, 2) := by decide +kernel
theorem dX4_mirror_59 : decode cX4_mirror 59 = .ok (.iload 4, 2) := by decide +kernel
theorem dX4_mirror_61 : decode cX4_mirror 61 = .ok (.isub, 1) := by decide +kernel
theorem dX4_mirror_62 : decode cX4_mirror 62 = .ok (.goto 5, 3) := by decide +kernel
theorem dX4_mirror_65 : decode cX4_mirror 65 = .ok (.iload 4, 2) := by decide +kernel
theorem dX4_mirror_67 : decode cX4_mirror 67 = .ok (.iload_n 2, 1) := by decide +kernel
theorem dX4_mirror_68 : decode cX4_mirror 68 = .ok (.iconst 1, 1) := by decide +kernel
theorem dX4_mirror_69 : decode cX4_mirror 69 = .ok (.if_icmp .ne 11, 3) := by decide +kernel
theorem dX4_mirror_72 : decode cX4_mirror 72 = .ok (.bipush 11, 2) := by decide +kernel
theorem dX4_mirror_74 : decode cX4_mirror 74 = .ok (.iload 5, 2) := by decide +kernel
theorem dX4_mirror_76 : decode cX4_mirror 76 = .ok (.isub, 1) := by decide +kernel
theorem dX4_mirror_77 : decode cX4_mirror 77 = .ok (.goto 5, 3) := by decide +kernel
theorem dX4_mirror_80 : decode cX4_mirror 80 = .ok (.iload 5, 2) := by decide +kernel
theorem dX4_mirror_82 : decode cX4_mirror 82 = .ok (.iload_n 2, 1) := by decide +kernel
theorem dX4_mirror_83 : decode cX4_mirror 83 = .ok (.iconst 2, 1) := by decide +kernel
theorem dX4_mirror_84 : decode cX4_mirror 84 = .ok (.if_icmp .ne 11, 3) := by decide +kernel
theorem dX4_mirror_87 : decode cX4_mirror 87 = .ok (.bipush 11, 2) := by decide +kernel
theorem dX4_mirror_89 : decode cX4_mirror 89 = .ok (.iload 6, 2) := by decide +kernel
theorem dX4_mirror_91 : decode cX4_mirror 91 = .ok (.isub, 1) := by decide +kernel
theorem dX4_mirror_92 : decode cX4_mirror 92 = .ok (.goto 5, 3) := by decide +kernel
theorem dX4_mirror_95 : decode cX4_mirror 95 = .ok (.iload 6, 2) := by decide +kernel
theorem dX4_mirror_97 : decode cX4_mirror 97 = .ok (.invokevirtual 26, 3) := by decide +kernel
theorem dX4_mirror_100 : decode cX4_mirror 100 = .ok (.ifCond .eq 13, 3) := by decide +kernel
theorem dX4_mirror_103 : decode cX4_mirror 103 = .ok (.aload_n 0, 1) := by decide +kernel
theorem dX4_mirror_104 : decode cX4_mirror 104 = .ok (.iload 4, 2) := by decide +kernel
theorem dX4_mirror_106 : decode cX4_mirror 106 = .ok (.iload 5, 2) := by decide +kernel
theorem dX4_mirror_108 : decode cX4_mirror 108 = .ok (.iload 6, 2) := by decide +kernel
theorem dX4_mirror_110 : decode cX4_mirror 110 = .ok (.invokevirtual 52, 3) := by decide +kernel
theorem dX4_mirror_113 : decode cX4_mirror 113 = .ok (.iinc 3 1, 3) := by decide +kernel
theorem dX4_mirror_116 : decode cX4_mirror 116 = .ok (.goto (-94), 3) := by decide +kernel
theorem dX4_mirror_119 : decode cX4_mirror 119 = .ok (.aload_n 0, 1) := by decide +kernel
theorem dX4_mirror_120 : decode cX4_mirror 120 = .ok (.iload_n 1, 1) := by decide +kernel
theorem dX4_mirror_121 : decode cX4_mirror 121 = .ok (.invokevirtual 56, 3) := by decide +kernel
theorem dX4_mirror_124 : decode cX4_mirror 124 = .ok (.ireturn, 1) := by decide +kernel
theorem dX4_shifted_0 : decode cX4_shifted 0 = .ok (.iload_n 1, 1) := by decide +kernel
theorem dX4_shifted_1 : decode cX4_shifted 1 = .ok (.bipush (-12), 2) := by decide +kernel
theorem dX4_shifted_3 : decode cX4_shifted 3 = .ok (.if_icmp .le 26, 3) := by decide +kernel
theorem dX4_shifted_6 : decode cX4_shifted 6 = .ok (.iload_n 1, 1) := by decide +kernel
theorem dX4_shifted_7 : decode cX4_shifted 7 = .ok (.bipush 12, 2) := by decide +kernel
theorem dX4_shifted_9 : decode cX4_shifted 9 = .ok (.if_icmp .ge 20, 3) := by decide +kernel
theorem dX4_shifted_12 : decode cX4_shifted 12 = .ok (.iload_n 0, 1) := by decide +kernel
theorem dX4_shifted_13 : decode cX4_shifted 13 = .ok (.iload_n 1, 1) := by decide +kernel
theorem dX4_shifted_14 : decode cX4_shifted 14 = .ok (.iadd, 1) := by decide +kernel
theorem dX4_shifted_15 : decode cX4_shifted 15 = .ok (.bipush 12, 2) := by decide +kernel
theorem dX4_shifted_17 : decode cX4_shifted 17 = .ok (.invokestatic 22, 3) := by decide +kernel
theorem dX4_shifted_20 : decode cX4_shifted 20 = .ok (.ifCond .eq 9, 3) := by decide +kernel
theorem dX4_shifted_23 : decode cX4_shifted 23 = .ok (.iload_n 0, 1) := by decide +kernel
theorem dX4_shifted_24 : decode cX4_shifted 24 = .ok (.iload_n 1, 1) := by decide +kernel
theorem dX4_shifted_25 : decode cX4_shifted 25 = .ok (.iadd, 1) := by decide +kernel
theorem dX4_shifted_26 : decode cX4_shifted 26 = .ok (.goto 4, 3) := by decide +kernel
theorem dX4_shifted_29 : decode cX4_shifted 29 = .ok (.iconst (-1), 1) := by decide +kernel
theorem dX4_shifted_30 : decode cX4_shifted 30 = .ok (.ireturn, 1) := by decide +kernel
theorem dX4_shift_0 : decode cX4_shift 0 = .ok (.iload_n 1, 1) := by decide +kernel
theorem dX4_shift_1 : decode cX4_shift 1 = .ok (.invokestatic 45, 3) := by decide +kernel
theorem dX4_shift_4 : decode cX4_shift 4 = .ok (.ifCond .ne 5, 3) := by decide +kernel
theorem dX4_shift_7 : decode cX4_shift 7 = .ok (.iconst (-1), 1) := by decide +kernel
theorem dX4_shift_8 : decode cX4_shift 8 = .ok (.ireturn, 1) := by decide +kernel
theorem dX4_shift_9 : decode cX4_shift 9 = .ok (.aload_n 0, 1) := by decide +kernel
theorem dX4_shift_10 : decode cX4_shift 10 = .ok (.invokevirtual 49, 3) := by decide +kernel
theorem dX4_shift_13 : decode cX4_shift 13 = .ok (.iconst 0, 1) := by decide +kernel
theorem dX4_shift_14 : decode cX4_shift 14 = .ok (.istore 5, 2) := by decide +kernel
theorem dX4_shift_16 : decode cX4_shift 16 = .ok (.iload 5, 2) := by decide +kernel
theorem dX4_shift_18 : decode cX4_shift 18 = .ok (.sipush 1728, 3) := by decide +kernel
theorem dX4_shift_21 : decode cX4_shift 21 = .ok (.if_icmp .ge 102, 3) := by decide +kernel
theorem dX4_shift_24 : decode cX4_shift 24 = .ok (.aload_n 0, 1) := by decide +kernel
theorem dX4_shift_25 : decode cX4_shift 25 = .ok (.iload_n 1, 1) := by decide +kernel
theorem dX4_shift_26 : decode cX4_shift 26 = .ok (.iload 5, 2) := by decide +kernel
theorem dX4_shift_28 : decode cX4_shift 28 = .ok (.sipush 144, 3) := by decide +kernel
theorem dX4_shift_31 : decode cX4_shift 31 = .ok (.idiv, 1) := by decide +kernel
theorem dX4_shift_32 : decode cX4_shift 32 = .ok (.iload 5, 2) := by decide +kernel
theorem dX4_shift_34 : decode cX4_shift 34 = .ok (.bipush 12, 2) := by decide +kernel
theorem dX4_shift_36 : decode cX4_shift 36 = .ok (.idiv, 1) := by decide +kernel
theorem dX4_shift_37 : decode cX4_shift 37 = .ok (.bipush 12, 2) := by decide +kernel
theorem dX4_shift_39 : decode cX4_shift 39 = .ok (.irem, 1) := by decide +kernel
theorem dX4_shift_40 : decode cX4_shift 40 = .ok (.iload 5, 2) := by decide +kernel
theorem dX4_shift_42 : decode cX4_shift 42 = .ok (.bipush 12, 2) := by decide +kernel
theorem dX4_shift_44 : decode cX4_shift 44 = .ok (.irem, 1) := by decide +kernel
theorem dX4_shift_45 : decode cX4_shift 45 = .ok (.invokevirtual 26, 3) := by decide +kernel
theorem dX4_shift_48 : decode cX4_shift 48 = .ok (.ifCond .eq 69, 3) := by decide +kernel
theorem dX4_shift_51 : decode cX4_shift 51 = .ok (.iload 5, 2) := by decide +kernel
theorem dX4_shift_53 : decode cX4_shift 53 = .ok (.sipush 144, 3) := by decide +kernel
theorem dX4_shift_56 : decode cX4_shift 56 = .ok (.idiv, 1) := by decide +kernel
theorem dX4_shift_57 : decode cX4_shift 57 = .ok (.iload_n 2, 1) := by decide +kernel
theorem dX4_shift_58 : decode cX4_shift 58 = .ok (.invokestatic 62, 3) := by decide +kernel
theorem dX4_shift_61 : decode cX4_shift 61 = .ok (.istore 6, 2) := by decide +kernel
theorem dX4_shift_63 : decode cX4_shift 63 = .ok (.iload 5, 2) := by decide +kernel
theorem dX4_shift_65 : decode cX4_shift 65 = .ok (.bipush 12, 2) := by decide +kernel
theorem dX4_shift_67 : decode cX4_shift 67 = .ok (.idiv, 1) := by decide +kernel
theorem dX4_shift_68 : decode cX4_shift 68 = .ok (.bipush 12, 2) := by decide +kernel
theorem dX4_shift_70 : decode cX4_shift 70 = .ok (.irem, 1) := by decide +kernel
theorem dX4_shift_71 : decode cX4_shift 71 = .ok (.iload_n 3, 1) := by decide +kernel
theorem dX4_shift_72 : decode cX4_shift 72 = .ok (.invokestatic 62, 3) := by decide +kernel
theorem dX4_shift_75 : decode cX4_shift 75 = .ok (.istore 7, 2) := by decide +kernel
theorem dX4_shift_77 : decode cX4_shift 77 = .ok (.iload 5, 2) := by decide +kernel
theorem dX4_shift_79 : decode cX4_shift 79 = .ok (.bipush 12, 2) := by decide +kernel
theorem dX4_shift_81 : decode cX4_shift 81 = .ok (.irem, 1) := by decide +kernel
theorem dX4_shift_82 : decode cX4_shift 82 = .ok (.iload 4, 2) := by decide +kernel
theorem dX4_shift_84 : decode cX4_shift 84 = .ok (.invokestatic 62, 3) := by decide +kernel
theorem dX4_shift_87 : decode cX4_shift 87 = .ok (.istore 8, 2) := by decide +kernel
theorem dX4_shift_89 : decode cX4_shift 89 = .ok (.iload 6, 2) := by decide +kernel
theorem dX4_shift_91 : decode cX4_shift 91 = .ok (.ifCond .lt 13, 3) := by decide +kernel
theorem dX4_shift_94 : decode cX4_shift 94 = .ok (.iload 7, 2) := by decide +kernel
theorem dX4_shift_96 : decode cX4_shift 96 = .ok (.ifCond .lt 8, 3) := by decide +kernel
theorem dX4_shift_99 : decode cX4_shift 99 = .ok (.iload 8, 2) := by decide +kernel
theorem dX4_shift_101 : decode cX4_shift 101 = .ok (.ifCond .ge 6, 3) := by decide +kernel
theorem dX4_shift_104 : decode cX4_shift 104 = .ok (.bipush (-2), 2) := by decide +kernel
theorem dX4_shift_106 : decode cX4_shift 106 = .ok (.ireturn, 1) := by decide +kernel
theorem dX4_shift_107 : decode cX4_shift 107 = .ok (.aload_n 0, 1) := by decide +kernel
theorem dX4_shift_108 : decode cX4_shift 108 = .ok (.iload 6, 2) := by decide +kernel
theorem dX4_shift_110 : decode cX4_shift 110 = .ok (.iload 7, 2) := by decide +kernel
theorem dX4_shift_112 : decode cX4_shift 112 = .ok (.iload 8, 2) := by decide +kernel
theorem dX4_shift_114 : decode cX4_shift 114 = .ok (.invokevirtual 52, 3) := by decide +kernel
theorem dX4_shift_117 : decode cX4_shift 117 = .ok (.iinc 5 1, 3) := by decide +kernel
theorem dX4_shift_120 : decode cX4_shift 120 = .ok (.goto (-104), 3) := by decide +kernel
theorem dX4_shift_123 : decode cX4_shift 123 = .ok (.aload_n 0, 1) := by decide +kernel
theorem dX4_shift_124 : decode cX4_shift 124 = .ok (.iload_n 1, 1) := by decide +kernel
theorem dX4_shift_125 : decode cX4_shift 125 = .ok (.invokevirtual 56, 3) := by decide +kernel
theorem dX4_shift_128 : decode cX4_shift 128 = .ok (.ireturn, 1) := by decide +kernel
theorem dX4_sweep_0 : decode cX4_sweep 0 = .ok (.iload_n 1, 1) := by decide +kernel
theorem dX4_sweep_1 : decode cX4_sweep 1 = .ok (.invokestatic 45, 3) := by decide +kernel
theorem dX4_sweep_4 : decode cX4_sweep 4 = .ok (.ifCond .eq 27, 3) := by decide +kernel
theorem dX4_sweep_7 : decode cX4_sweep 7 = .ok (.iload_n 2, 1) := by decide +kernel
theorem dX4_sweep_8 : decode cX4_sweep 8 = .ok (.invokestatic 45, 3) := by decide +kernel
theorem dX4_sweep_11 : decode cX4_sweep 11 = .ok (.ifCond .eq 20, 3) := by decide +kernel
theorem dX4_sweep_14 : decode cX4_sweep 14 = .ok (.iload_n 3, 1) := by decide +kernel
theorem dX4_sweep_15 : decode cX4_sweep 15 = .ok (.invokestatic 59, 3) := by decide +kernel
theorem dX4_sweep_18 : decode cX4_sweep 18 = .ok (.ifCond .eq 13, 3) := by decide +kernel
theorem dX4_sweep_21 : decode cX4_sweep 21 = .ok (.iload 4, 2) := by decide +kernel
theorem dX4_sweep_23 : decode cX4_sweep 23 = .ok (.bipush 12, 2) := by decide +kernel
theorem dX4_sweep_25 : decode cX4_sweep 25 = .ok (.invokestatic 22, 3) := by decide +kernel
theorem dX4_sweep_28 : decode cX4_sweep 28 = .ok (.ifCond .ne 5, 3) := by decide +kernel
theorem dX4_sweep_31 : decode cX4_sweep 31 = .ok (.iconst (-1), 1) := by decide +kernel
theorem dX4_sweep_32 : decode cX4_sweep 32 = .ok (.ireturn, 1) := by decide +kernel
theorem dX4_sweep_33 : decode cX4_sweep 33 = .ok (.iload 5, 2) := by decide +kernel
theorem dX4_sweep_35 : decode cX4_sweep 35 = .ok (.bipush 12, 2) := by decide +kernel
theorem dX4_sweep_37 : decode cX4_sweep 37 = .ok (.invokestatic 22, 3) := by decide +kernel
theorem dX4_sweep_40 : decode cX4_sweep 40 = .ok (.ifCond .eq 20, 3) := by decide +kernel
theorem dX4_sweep_43 : decode cX4_sweep 43 = .ok (.iload 6, 2) := by decide +kernel
theorem dX4_sweep_45 : decode cX4_sweep 45 = .ok (.bipush 12, 2) := by decide +kernel
theorem dX4_sweep_47 : decode cX4_sweep 47 = .ok (.invokestatic 22, 3) := by decide +kernel
theorem dX4_sweep_50 : decode cX4_sweep 50 = .ok (.ifCond .eq 10, 3) := by decide +kernel
theorem dX4_sweep_53 : decode cX4_sweep 53 = .ok (.iload 5, 2) := by decide +kernel
theorem dX4_sweep_55 : decode cX4_sweep 55 = .ok (.iload 6, 2) := by decide +kernel
theorem dX4_sweep_57 : decode cX4_sweep 57 = .ok (.if_icmp .le 6, 3) := by decide +kernel
theorem dX4_sweep_60 : decode cX4_sweep 60 = .ok (.bipush (-2), 2) := by decide +kernel
theorem dX4_sweep_62 : decode cX4_sweep 62 = .ok (.ireturn, 1) := by decide +kernel
theorem dX4_sweep_63 : decode cX4_sweep 63 = .ok (.aload_n 0, 1) := by decide +kernel
theorem dX4_sweep_64 : decode cX4_sweep 64 = .ok (.invokevirtual 49, 3) := by decide +kernel
theorem dX4_sweep_67 : decode cX4_sweep 67 = .ok (.iconst 0, 1) := by decide +kernel
theorem dX4_sweep_68 : decode cX4_sweep 68 = .ok (.istore 7, 2) := by decide +kernel
theorem dX4_sweep_70 : decode cX4_sweep 70 = .ok (.iload 7, 2) := by decide +kernel
theorem dX4_sweep_72 : decode cX4_sweep 72 = .ok (.bipush 12, 2) := by decide +kernel
theorem dX4_sweep_74 : decode cX4_sweep 74 = .ok (.if_icmp .ge 101, 3) := by decide +kernel
theorem dX4_sweep_77 : decode cX4_sweep 77 = .ok (.iconst 0, 1) := by decide +kernel
theorem dX4_sweep_78 : decode cX4_sweep 78 = .ok (.istore 8, 2) := by decide +kernel
theorem dX4_sweep_80 : decode cX4_sweep 80 = .ok (.iload 8, 2) := by decide +kernel
theorem dX4_sweep_82 : decode cX4_sweep 82 = .ok (.bipush 12, 2) := by decide +kernel
theorem dX4_sweep_84 : decode cX4_sweep 84 = .ok (.if_icmp .ge 85, 3) := by decide +kernel
theorem dX4_sweep_87 : decode cX4_sweep 87 = .ok (.iload 5, 2) := by decide +kernel
theorem dX4_sweep_89 : decode cX4_sweep 89 = .ok (.istore 9, 2) := by decide +kernel
theorem dX4_sweep_91 : decode cX4_sweep 91 = .ok (.iload 9, 2) := by decide +kernel
theorem dX4_sweep_93 : decode cX4_sweep 93 = .ok (.iload 6, 2) := by decide +kernel
theorem dX4_sweep_95 : decode cX4_sweep 95 = .ok (.if_icmp .gt 68, 3) := by decide +kernel
theorem dX4_sweep_98 : decode cX4_sweep 98 = .ok (.aload_n 0, 1) := by decide +kernel
theorem dX4_sweep_99 : decode cX4_sweep 99 = .ok (.iload_n 2, 1) := by decide +kernel
theorem dX4_sweep_100 : decode cX4_sweep 100 = .ok (.iload_n 3, 1) := by decide +kernel
theorem dX4_sweep_101 : decode cX4_sweep 101 = .ok (.iload 4, 2) := by decide +kernel
theorem dX4_sweep_103 : decode cX4_sweep 103 = .ok (.iload 7, 2) := by decide +kernel
theorem dX4_sweep_105 : decode cX4_sweep 105 = .ok (.iload 8, 2) := by decide +kernel
theorem dX4_sweep_107 : decode cX4_sweep 107 = .ok (.invokevirtual 66, 3) := by decide +kernel
theorem dX4_sweep_110 : decode cX4_sweep 110 = .ok (.ifCond .eq 53, 3) := by decide +kernel
theorem dX4_sweep_113 : decode cX4_sweep 113 = .ok (.iload_n 3, 1) := by decide +kernel
theorem dX4_sweep_114 : decode cX4_sweep 114 = .ok (.ifCond .ne 13, 3) := by decide +kernel
theorem dX4_sweep_117 : decode cX4_sweep 117 = .ok (.aload_n 0, 1) := by decide +kernel
theorem dX4_sweep_118 : decode cX4_sweep 118 = .ok (.iload 9, 2) := by decide +kernel
theorem dX4_sweep_120 : decode cX4_sweep 120 = .ok (.iload 7, 2) := by decide +kernel
theorem dX4_sweep_122 : decode cX4_sweep 122 = .ok (.iload 8, 2) := by decide +kernel
theorem dX4_sweep_124 : decode cX4_sweep 124 = .ok (.invokevirtual 52, 3) := by decide +kernel
theorem dX4_sweep_127 : decode cX4_sweep 127 = .ok (.iload_n 3, 1) := by decide +kernel
theorem dX4_sweep_128 : decode cX4_sweep 128 = .ok (.iconst 1, 1) := by decide +kernel
theorem dX4_sweep_129 : decode cX4_sweep 129 = .ok (.if_icmp .ne 13, 3) := by decide +kernel
theorem dX4_sweep_132 : decode cX4_sweep 132 = .ok (.aload_n 0, 1) := by decide +kernel
theorem dX4_sweep_133 : decode cX4_sweep 133 = .ok (.iload 7, 2) := by decide +kernel
theorem dX4_sweep_135 : decode cX4_sweep 135 = .ok (.iload 9, 2) := by decide +kernel
theorem dX4_sweep_137 : decode cX4_sweep 137 = .ok (.iload 8, 2) := by decide +kernel
theorem dX4_sweep_139 : decode cX4_sweep 139 = .ok (.invokevirtual 52, 3) := by decide +kernel
theorem dX4_sweep_142 : decode cX4_sweep 142 = .ok (.iload_n 3, 1) := by decide +kernel
theorem dX4_sweep_143 : decode cX4_sweep 143 = .ok (.iconst 2, 1) := by decide +kernel
theorem dX4_sweep_144 : decode cX4_sweep 144 = .ok (.if_icmp .ne 13, 3) := by decide +kernel
theorem dX4_sweep_147 : decode cX4_sweep 147 = .ok (.aload_n 0, 1) := by decide +kernel
theorem dX4_sweep_148 : decode cX4_sweep 148 = .ok (.iload 7, 2) := by decide +kernel
theorem dX4_sweep_150 : decode cX4_sweep 150 = .ok (.iload 8, 2) := by decide +kernel
theorem dX4_sweep_152 : decode cX4_sweep 152 = .ok (.iload 9, 2) := by decide +kernel
theorem dX4_sweep_154 : decode cX4_sweep 154 = .ok (.invokevirtual 52, 3) := by decide +kernel
theorem dX4_sweep_157 : decode cX4_sweep 157 = .ok (.iinc 9 1, 3) := by decide +kernel
theorem dX4_sweep_160 : decode cX4_sweep 160 = .ok (.goto (-69), 3) := by decide +kernel
theorem dX4_sweep_163 : decode cX4_sweep 163 = .ok (.iinc 8 1, 3) := by decide +kernel
theorem dX4_sweep_166 : decode cX4_sweep 166 = .ok (.goto (-86), 3) := by decide +kernel
theorem dX4_sweep_169 : decode cX4_sweep 169 = .ok (.iinc 7 1, 3) := by decide +kernel
theorem dX4_sweep_172 : decode cX4_sweep 172 = .ok (.goto (-102), 3) := by decide +kernel
theorem dX4_sweep_175 : decode cX4_sweep 175 = .ok (.aload_n 0, 1) := by decide +kernel
theorem dX4_sweep_176 : decode cX4_sweep 176 = .ok (.iload_n 1, 1) := by decide +kernel
theorem dX4_sweep_177 : decode cX4_sweep 177 = .ok (.invokevirtual 56, 3) := by decide +kernel
theorem dX4_sweep_180 : decode cX4_sweep 180 = .ok (.ireturn, 1) := by decide +kernel
theorem dX4_volume_0 : decode cX4_volume 0 = .ok (.iload_n 1, 1) := by decide +kernel
theorem dX4_volume_1 : decode cX4_volume 1 = .ok (.invokestatic 45, 3) := by decide +kernel
theorem dX4_volume_4 : decode cX4_volume 4 = .ok (.ifCond .eq 11, 3) := by decide +kernel
theorem dX4_volume_7 : decode cX4_volume 7 = .ok (.aload_n 0, 1) := by decide +kernel
theorem dX4_volume_8 : decode cX4_volume 8 = .ok (.iload_n 1, 1) := by decide +kernel
theorem dX4_volume_9 : decode cX4_volume 9 = .ok (.invokevirtual 41, 3) := by decide +kernel
theorem dX4_volume_12 : decode cX4_volume 12 = .ok (.goto 4, 3) := by decide +kernel
theorem dX4_volume_15 : decode cX4_volume 15 = .ok (.iconst (-1), 1) := by decide +kernel
theorem dX4_volume_16 : decode cX4_volume 16 = .ok (.ireturn, 1) := by decide +kernel
theorem dX4_sides_0 : decode cX4_sides 0 = .ok (.iload_n 1, 1) := by decide +kernel
theorem dX4_sides_1 : decode cX4_sides 1 = .ok (.invokestatic 45, 3) := by decide +kernel
theorem dX4_sides_4 : decode cX4_sides 4 = .ok (.ifCond .ne 5, 3) := by decide +kernel
theorem dX4_sides_7 : decode cX4_sides 7 = .ok (.iconst (-1), 1) := by decide +kernel
theorem dX4_sides_8 : decode cX4_sides 8 = .ok (.ireturn, 1) := by decide +kernel
theorem dX4_sides_9 : decode cX4_sides 9 = .ok (.iconst 0, 1) := by decide +kernel
theorem dX4_sides_10 : decode cX4_sides 10 = .ok (.istore_n 2, 1) := by decide +kernel
theorem dX4_sides_11 : decode cX4_sides 11 = .ok (.iconst 0, 1) := by decide +kernel
theorem dX4_sides_12 : decode cX4_sides 12 = .ok (.istore_n 3, 1) := by decide +kernel
theorem dX4_sides_13 : decode cX4_sides 13 = .ok (.iload_n 3, 1) := by decide +kernel
theorem dX4_sides_14 : decode cX4_sides 14 = .ok (.sipush 1728, 3) := by decide +kernel
theorem dX4_sides_17 : decode cX4_sides 17 = .ok (.if_icmp .ge 181, 3) := by decide +kernel
theorem dX4_sides_20 : decode cX4_sides 20 = .ok (.iload_n 3, 1) := by decide +kernel
theorem dX4_sides_21 : decode cX4_sides 21 = .ok (.sipush 144, 3) := by decide +kernel
theorem dX4_sides_24 : decode cX4_sides 24 = .ok (.idiv, 1) := by decide +kernel
theorem dX4_sides_25 : decode cX4_sides 25 = .ok (.istore 4, 2) := by decide +kernel
theorem dX4_sides_27 : decode cX4_sides 27 = .ok (.iload_n 3, 1) := by decide +kernel
theorem dX4_sides_28 : decode cX4_sides 28 = .ok (.bipush 12, 2) := by decide +kernel
theorem dX4_sides_30 : decode cX4_sides 30 = .ok (.idiv, 1) := by decide +kernel
theorem dX4_sides_31 : decode cX4_sides 31 = .ok (.bipush 12, 2) := by decide +kernel
theorem dX4_sides_33 : decode cX4_sides 33 = .ok (.irem, 1) := by decide +kernel
theorem dX4_sides_34 : decode cX4_sides 34 = .ok (.istore 5, 2) := by decide +kernel
theorem dX4_sides_36 : decode cX4_sides 36 = .ok (.iload_n 3, 1) := by decide +kernel
theorem dX4_sides_37 : decode cX4_sides 37 = .ok (.bipush 12, 2) := by decide +kernel
theorem dX4_sides_39 : decode cX4_sides 39 = .ok (.irem, 1) := by decide +kernel
theorem dX4_sides_40 : decode cX4_sides 40 = .ok (.istore 6, 2) := by decide +kernel
theorem dX4_sides_42 : decode cX4_sides 42 = .ok (.aload_n 0, 1) := by decide +kernel
theorem dX4_sides_43 : decode cX4_sides 43 = .ok (.iload_n 1, 1) := by decide +kernel
theorem dX4_sides_44 : decode cX4_sides 44 = .ok (.iload 4, 2) := by decide +kernel
theorem dX4_sides_46 : decode cX4_sides 46 = .ok (.iload 5, 2) := by decide +kernel
theorem dX4_sides_48 : decode cX4_sides 48 = .ok (.iload 6, 2) := by decide +kernel
theorem dX4_sides_50 : decode cX4_sides 50 = .ok (.invokevirtual 26, 3) := by decide +kernel
theorem dX4_sides_53 : decode cX4_sides 53 = .ok (.ifCond .eq 139, 3) := by decide +kernel
theorem dX4_sides_56 : decode cX4_sides 56 = .ok (.iload_n 2, 1) := by decide +kernel
theorem dX4_sides_57 : decode cX4_sides 57 = .ok (.aload_n 0, 1) := by decide +kernel
theorem dX4_sides_58 : decode cX4_sides 58 = .ok (.iload_n 1, 1) := by decide +kernel
theorem dX4_sides_59 : decode cX4_sides 59 = .ok (.iload 4, 2) := by decide +kernel
theorem dX4_sides_61 : decode cX4_sides 61 = .ok (.iconst 1, 1) := by decide +kernel
theorem dX4_sides_62 : decode cX4_sides 62 = .ok (.isub, 1) := by decide +kernel
theorem dX4_sides_63 : decode cX4_sides 63 = .ok (.iload 5, 2) := by decide +kernel
theorem dX4_sides_65 : decode cX4_sides 65 = .ok (.iload 6, 2) := by decide +kernel
theorem dX4_sides_67 : decode cX4_sides 67 = .ok (.invokevirtual 26, 3) := by decide +kernel
theorem dX4_sides_70 : decode cX4_sides 70 = .ok (.ifCond .eq 7, 3) := by decide +kernel
theorem dX4_sides_73 : decode cX4_sides 73 = .ok (.iconst 0, 1) := by decide +kernel
theorem dX4_sides_74 : decode cX4_sides 74 = .ok (.goto 4, 3) := by decide +kernel
theorem dX4_sides_77 : decode cX4_sides 77 = .ok (.iconst 1, 1) := by decide +kernel
theorem dX4_sides_78 : decode cX4_sides 78 = .ok (.aload_n 0, 1) := by decide +kernel
theorem dX4_sides_79 : decode cX4_sides 79 = .ok (.iload_n 1, 1) := by decide +kernel
theorem dX4_sides_80 : decode cX4_sides 80 = .ok (.iload 4, 2) := by decide +kernel
theorem dX4_sides_82 : decode cX4_sides 82 = .ok (.iconst 1, 1) := by decide +kernel
theorem dX4_sides_83 : decode cX4_sides 83 = .ok (.iadd, 1) := by decide +kernel
theorem dX4_sides_84 : decode cX4_sides 84 = .ok (.iload 5, 2) := by decide +kernel
theorem dX4_sides_86 : decode cX4_sides 86 = .ok (.iload 6, 2) := by decide +kernel
theorem dX4_sides_88 : decode cX4_sides 88 = .ok (.invokevirtual 26, 3) := by decide +kernel
theorem dX4_sides_91 : decode cX4_sides 91 = .ok (.ifCond .eq 7, 3) := by decide +kernel
theorem dX4_sides_94 : decode cX4_sides 94 = .ok (.iconst 0, 1) := by decide +kernel
theorem dX4_sides_95 : decode cX4_sides 95 = .ok (.goto 4, 3) := by decide +kernel
theorem dX4_sides_98 : decode cX4_sides 98 = .ok (.iconst 1, 1) := by decide +kernel
theorem dX4_sides_99 : decode cX4_sides 99 = .ok (.iadd, 1) := by decide +kernel
theorem dX4_sides_100 : decode cX4_sides 100 = .ok (.aload_n 0, 1) := by decide +kernel
theorem dX4_sides_101 : decode cX4_sides 101 = .ok (.iload_n 1, 1) := by decide +kernel
theorem dX4_sides_102 : decode cX4_sides 102 = .ok (.iload 4, 2) := by decide +kernel
theorem dX4_sides_104 : decode cX4_sides 104 = .ok (.iload 5, 2) := by decide +kernel
theorem dX4_sides_106 : decode cX4_sides 106 = .ok (.iconst 1, 1) := by decide +kernel
theorem dX4_sides_107 : decode cX4_sides 107 = .ok (.isub, 1) := by decide +kernel
theorem dX4_sides_108 : decode cX4_sides 108 = .ok (.iload 6, 2) := by decide +kernel
theorem dX4_sides_110 : decode cX4_sides 110 = .ok (.invokevirtual 26, 3) := by decide +kernel
theorem dX4_sides_113 : decode cX4_sides 113 = .ok (.ifCond .eq 7, 3) := by decide +kernel
theorem dX4_sides_116 : decode cX4_sides 116 = .ok (.iconst 0, 1) := by decide +kernel
theorem dX4_sides_117 : decode cX4_sides 117 = .ok (.goto 4, 3) := by decide +kernel
theorem dX4_sides_120 : decode cX4_sides 120 = .ok (.iconst 1, 1) := by decide +kernel
theorem dX4_sides_121 : decode cX4_sides 121 = .ok (.iadd, 1) := by decide +kernel
theorem dX4_sides_122 : decode cX4_sides 122 = .ok (.iadd, 1) := by decide +kernel
theorem dX4_sides_123 : decode cX4_sides 123 = .ok (.istore_n 2, 1) := by decide +kernel
theorem dX4_sides_124 : decode cX4_sides 124 = .ok (.iload_n 2, 1) := by decide +kernel
theorem dX4_sides_125 : decode cX4_sides 125 = .ok (.aload_n 0, 1) := by decide +kernel
theorem dX4_sides_126 : decode cX4_sides 126 = .ok (.iload_n 1, 1) := by decide +kernel
theorem dX4_sides_127 : decode cX4_sides 127 = .ok (.iload 4, 2) := by decide +kernel
theorem dX4_sides_129 : decode cX4_sides 129 = .ok (.iload 5, 2) := by decide +kernel
theorem dX4_sides_131 : decode cX4_sides 131 = .ok (.iconst 1, 1) := by decide +kernel
theorem dX4_sides_132 : decode cX4_sides 132 = .ok (.iadd, 1) := by decide +kernel
theorem dX4_sides_133 : decode cX4_sides 133 = .ok (.iload 6, 2) := by decide +kernel
theorem dX4_sides_135 : decode cX4_sides 135 = .ok (.invokevirtual 26, 3) := by decide +kernel
theorem dX4_sides_138 : decode cX4_sides 138 = .ok (.ifCond .eq 7, 3) := by decide +kernel
theorem dX4_sides_141 : decode cX4_sides 141 = .ok (.iconst 0, 1) := by decide +kernel
theorem dX4_sides_142 : decode cX4_sides 142 = .ok (.goto 4, 3) := by decide +kernel
theorem dX4_sides_145 : decode cX4_sides 145 = .ok (.iconst 1, 1) := by decide +kernel
theorem dX4_sides_146 : decode cX4_sides 146 = .ok (.aload_n 0, 1) := by decide +kernel
theorem dX4_sides_147 : decode cX4_sides 147 = .ok (.iload_n 1, 1) := by decide +kernel
theorem dX4_sides_148 : decode cX4_sides 148 = .ok (.iload 4, 2) := by decide +kernel
theorem dX4_sides_150 : decode cX4_sides 150 = .ok (.iload 5, 2) := by decide +kernel
theorem dX4_sides_152 : decode cX4_sides 152 = .ok (.iload 6, 2) := by decide +kernel
theorem dX4_sides_154 : decode cX4_sides 154 = .ok (.iconst 1, 1) := by decide +kernel
theorem dX4_sides_155 : decode cX4_sides 155 = .ok (.isub, 1) := by decide +kernel
theorem dX4_sides_156 : decode cX4_sides 156 = .ok (.invokevirtual 26, 3) := by decide +kernel
theorem dX4_sides_159 : decode cX4_sides 159 = .ok (.ifCond .eq 7, 3) := by decide +kernel
theorem dX4_sides_162 : decode cX4_sides 162 = .ok (.iconst 0, 1) := by decide +kernel
theorem dX4_sides_163 : decode cX4_sides 163 = .ok (.goto 4, 3) := by decide +kernel
theorem dX4_sides_166 : decode cX4_sides 166 = .ok (.iconst 1, 1) := by decide +kernel
theorem dX4_sides_167 : decode cX4_sides 167 = .ok (.iadd, 1) := by decide +kernel
theorem dX4_sides_168 : decode cX4_sides 168 = .ok (.aload_n 0, 1) := by decide +kernel
theorem dX4_sides_169 : decode cX4_sides 169 = .ok (.iload_n 1, 1) := by decide +kernel
theorem dX4_sides_170 : decode cX4_sides 170 = .ok (.iload 4, 2) := by decide +kernel
theorem dX4_sides_172 : decode cX4_sides 172 = .ok (.iload 5, 2) := by decide +kernel
theorem dX4_sides_174 : decode cX4_sides 174 = .ok (.iload 6, 2) := by decide +kernel
theorem dX4_sides_176 : decode cX4_sides 176 = .ok (.iconst 1, 1) := by decide +kernel
theorem dX4_sides_177 : decode cX4_sides 177 = .ok (.iadd, 1) := by decide +kernel
theorem dX4_sides_178 : decode cX4_sides 178 = .ok (.invokevirtual 26, 3) := by decide +kernel
theorem dX4_sides_181 : decode cX4_sides 181 = .ok (.ifCond .eq 7, 3) := by decide +kernel
theorem dX4_sides_184 : decode cX4_sides 184 = .ok (.iconst 0, 1) := by decide +kernel
theorem dX4_sides_185 : decode cX4_sides 185 = .ok (.goto 4, 3) := by decide +kernel
theorem dX4_sides_188 : decode cX4_sides 188 = .ok (.iconst 1, 1) := by decide +kernel
theorem dX4_sides_189 : decode cX4_sides 189 = .ok (.iadd, 1) := by decide +kernel
theorem dX4_sides_190 : decode cX4_sides 190 = .ok (.iadd, 1) := by decide +kernel
theorem dX4_sides_191 : decode cX4_sides 191 = .ok (.istore_n 2, 1) := by decide +kernel
theorem dX4_sides_192 : decode cX4_sides 192 = .ok (.iinc 3 1, 3) := by decide +kernel
theorem dX4_sides_195 : decode cX4_sides 195 = .ok (.goto (-182), 3) := by decide +kernel
theorem dX4_sides_198 : decode cX4_sides 198 = .ok (.iload_n 2, 1) := by decide +kernel
theorem dX4_sides_199 : decode cX4_sides 199 = .ok (.ireturn, 1) := by decide +kernel
theorem dX4_isEdge_0 : decode cX4_isEdge 0 = .ok (.aload_n 0, 1) := by decide +kernel
theorem dX4_isEdge_1 : decode cX4_isEdge 1 = .ok (.iload_n 1, 1) := by decide +kernel
theorem dX4_isEdge_2 : decode cX4_isEdge 2 = .ok (.iload_n 2, 1) := by decide +kernel
theorem dX4_isEdge_3 : decode cX4_isEdge 3 = .ok (.iload_n 3, 1) := by decide +kernel
theorem dX4_isEdge_4 : decode cX4_isEdge 4 = .ok (.iload 4, 2) := by decide +kernel
theorem dX4_isEdge_6 : decode cX4_isEdge 6 = .ok (.iconst 1, 1) := by decide +kernel
theorem dX4_isEdge_7 : decode cX4_isEdge 7 = .ok (.isub, 1) := by decide +kernel
theorem dX4_isEdge_8 : decode cX4_isEdge 8 = .ok (.iload 5, 2) := by decide +kernel
theorem dX4_isEdge_10 : decode cX4_isEdge 10 = .ok (.iconst 1, 1) := by decide +kernel
theorem dX4_isEdge_11 : decode cX4_isEdge 11 = .ok (.isub, 1) := by decide +kernel
theorem dX4_isEdge_12 : decode cX4_isEdge 12 = .ok (.invokevirtual 66, 3) := by decide +kernel
theorem dX4_isEdge_15 : decode cX4_isEdge 15 = .ok (.istore 6, 2) := by decide +kernel
theorem dX4_isEdge_17 : decode cX4_isEdge 17 = .ok (.aload_n 0, 1) := by decide +kernel
theorem dX4_isEdge_18 : decode cX4_isEdge 18 = .ok (.iload_n 1, 1) := by decide +kernel
theorem dX4_isEdge_19 : decode cX4_isEdge 19 = .ok (.iload_n 2, 1) := by decide +kernel
theorem dX4_isEdge_20 : decode cX4_isEdge 20 = .ok (.iload_n 3, 1) := by decide +kernel
theorem dX4_isEdge_21 : decode cX4_isEdge 21 = .ok (.iload 4, 2) := by decide +kernel
theorem dX4_isEdge_23 : decode cX4_isEdge 23 = .ok (.iload 5, 2) := by decide +kernel
theorem dX4_isEdge_25 : decode cX4_isEdge 25 = .ok (.iconst 1, 1) := by decide +kernel
theorem dX4_isEdge_26 : decode cX4_isEdge 26 = .ok (.isub, 1) := by decide +kernel
theorem dX4_isEdge_27 : decode cX4_isEdge 27 = .ok (.invokevirtual 66, 3) := by decide +kernel
theorem dX4_isEdge_30 : decode cX4_isEdge 30 = .ok (.istore 7, 2) := by decide +kernel
theorem dX4_isEdge_32 : decode cX4_isEdge 32 = .ok (.aload_n 0, 1) := by decide +kernel
theorem dX4_isEdge_33 : decode cX4_isEdge 33 = .ok (.iload_n 1, 1) := by decide +kernel
theorem dX4_isEdge_34 : decode cX4_isEdge 34 = .ok (.iload_n 2, 1) := by decide +kernel
theorem dX4_isEdge_35 : decode cX4_isEdge 35 = .ok (.iload_n 3, 1) := by decide +kernel
theorem dX4_isEdge_36 : decode cX4_isEdge 36 = .ok (.iload 4, 2) := by decide +kernel
theorem dX4_isEdge_38 : decode cX4_isEdge 38 = .ok (.iconst 1, 1) := by decide +kernel
theorem dX4_isEdge_39 : decode cX4_isEdge 39 = .ok (.isub, 1) := by decide +kernel
theorem dX4_isEdge_40 : decode cX4_isEdge 40 = .ok (.iload 5, 2) := by decide +kernel
theorem dX4_isEdge_42 : decode cX4_isEdge 42 = .ok (.invokevirtual 66, 3) := by decide +kernel
theorem dX4_isEdge_45 : decode cX4_isEdge 45 = .ok (.istore 8, 2) := by decide +kernel
theorem dX4_isEdge_47 : decode cX4_isEdge 47 = .ok (.aload_n 0, 1) := by decide +kernel
theorem dX4_isEdge_48 : decode cX4_isEdge 48 = .ok (.iload_n 1, 1) := by decide +kernel
theorem dX4_isEdge_49 : decode cX4_isEdge 49 = .ok (.iload_n 2, 1) := by decide +kernel
theorem dX4_isEdge_50 : decode cX4_isEdge 50 = .ok (.iload_n 3, 1) := by decide +kernel
theorem dX4_isEdge_51 : decode cX4_isEdge 51 = .ok (.iload 4, 2) := by decide +kernel
theorem dX4_isEdge_53 : decode cX4_isEdge 53 = .ok (.iload 5, 2) := by decide +kernel
theorem dX4_isEdge_55 : decode cX4_isEdge 55 = .ok (.invokevirtual 66, 3) := by decide +kernel
theorem dX4_isEdge_58 : decode cX4_isEdge 58 = .ok (.istore 9, 2) := by decide +kernel
theorem dX4_isEdge_60 : decode cX4_isEdge 60 = .ok (.iload 6, 2) := by decide +kernel
theorem dX4_isEdge_62 : decode cX4_isEdge 62 = .ok (.ifCond .eq 7, 3) := by decide +kernel
theorem dX4_isEdge_65 : decode cX4_isEdge 65 = .ok (.iconst 1, 1) := by decide +kernel
theorem dX4_isEdge_66 : decode cX4_isEdge 66 = .ok (.goto 4, 3) := by decide +kernel
theorem dX4_isEdge_69 : decode cX4_isEdge 69 = .ok (.iconst 0, 1) := by decide +kernel
theorem dX4_isEdge_70 : decode cX4_isEdge 70 = .ok (.iload 7, 2) := by decide +kernel
theorem dX4_isEdge_72 : decode cX4_isEdge 72 = .ok (.ifCond .eq 7, 3) := by decide +kernel
theorem dX4_isEdge_75 : decode cX4_isEdge 75 = .ok (.iconst 1, 1) := by decide +kernel
theorem dX4_isEdge_76 : decode cX4_isEdge 76 = .ok (.goto 4, 3) := by decide +kernel
theorem dX4_isEdge_79 : decode cX4_isEdge 79 = .ok (.iconst 0, 1) := by decide +kernel
theorem dX4_isEdge_80 : decode cX4_isEdge 80 = .ok (.iadd, 1) := by decide +kernel
theorem dX4_isEdge_81 : decode cX4_isEdge 81 = .ok (.iload 8, 2) := by decide +kernel
theorem dX4_isEdge_83 : decode cX4_isEdge 83 = .ok (.ifCond .eq 7, 3) := by decide +kernel
theorem dX4_isEdge_86 : decode cX4_isEdge 86 = .ok (.iconst 1, 1) := by decide +kernel
theorem dX4_isEdge_87 : decode cX4_isEdge 87 = .ok (.goto 4, 3) := by decide +kernel
theorem dX4_isEdge_90 : decode cX4_isEdge 90 = .ok (.iconst 0, 1) := by decide +kernel
theorem dX4_isEdge_91 : decode cX4_isEdge 91 = .ok (.iadd, 1) := by decide +kernel
theorem dX4_isEdge_92 : decode cX4_isEdge 92 = .ok (.iload 9, 2) := by decide +kernel
theorem dX4_isEdge_94 : decode cX4_isEdge 94 = .ok (.ifCond .eq 7, 3) := by decide +kernel
theorem dX4_isEdge_97 : decode cX4_isEdge 97 = .ok (.iconst 1, 1) := by decide +kernel
theorem dX4_isEdge_98 : decode cX4_isEdge 98 = .ok (.goto 4, 3) := by decide +kernel
theorem dX4_isEdge_101 : decode cX4_isEdge 101 = .ok (.iconst 0, 1) := by decide +kernel
theorem dX4_isEdge_102 : decode cX4_isEdge 102 = .ok (.iadd, 1) := by decide +kernel
theorem dX4_isEdge_103 : decode cX4_isEdge 103 = .ok (.istore 10, 2) := by decide +kernel
theorem dX4_isEdge_105 : decode cX4_isEdge 105 = .ok (.iload 10, 2) := by decide +kernel
theorem dX4_isEdge_107 : decode cX4_isEdge 107 = .ok (.iconst 1, 1) := by decide +kernel
theorem dX4_isEdge_108 : decode cX4_isEdge 108 = .ok (.if_icmp .eq 22, 3) := by decide +kernel
theorem dX4_isEdge_111 : decode cX4_isEdge 111 = .ok (.iload 10, 2) := by decide +kernel
theorem dX4_isEdge_113 : decode cX4_isEdge 113 = .ok (.iconst 3, 1) := by decide +kernel
theorem dX4_isEdge_114 : decode cX4_isEdge 114 = .ok (.if_icmp .eq 16, 3) := by decide +kernel
theorem dX4_isEdge_117 : decode cX4_isEdge 117 = .ok (.iload 10, 2) := by decide +kernel
theorem dX4_isEdge_119 : decode cX4_isEdge 119 = .ok (.iconst 2, 1) := by decide +kernel
theorem dX4_isEdge_120 : decode cX4_isEdge 120 = .ok (.if_icmp .ne 14, 3) := by decide +kernel
theorem dX4_isEdge_123 : decode cX4_isEdge 123 = .ok (.iload 6, 2) := by decide +kernel
theorem dX4_isEdge_125 : decode cX4_isEdge 125 = .ok (.iload 9, 2) := by decide +kernel
theorem dX4_isEdge_127 : decode cX4_isEdge 127 = .ok (.if_icmp .ne 7, 3) := by decide +kernel
theorem dX4_isEdge_130 : decode cX4_isEdge 130 = .ok (.iconst 1, 1) := by decide +kernel
theorem dX4_isEdge_131 : decode cX4_isEdge 131 = .ok (.goto 4, 3) := by decide +kernel
theorem dX4_isEdge_134 : decode cX4_isEdge 134 = .ok (.iconst 0, 1) := by decide +kernel
theorem dX4_isEdge_135 : decode cX4_isEdge 135 = .ok (.ireturn, 1) := by decide +kernel
theorem dX4_edges_0 : decode cX4_edges 0 = .ok (.iload_n 1, 1) := by decide +kernel
theorem dX4_edges_1 : decode cX4_edges 1 = .ok (.invokestatic 45, 3) := by decide +kernel
theorem dX4_edges_4 : decode cX4_edges 4 = .ok (.ifCond .ne 5, 3) := by decide +kernel
theorem dX4_edges_7 : decode cX4_edges 7 = .ok (.iconst (-1), 1) := by decide +kernel
theorem dX4_edges_8 : decode cX4_edges 8 = .ok (.ireturn, 1) := by decide +kernel
theorem dX4_edges_9 : decode cX4_edges 9 = .ok (.iconst 0, 1) := by decide +kernel
theorem dX4_edges_10 : decode cX4_edges 10 = .ok (.istore_n 2, 1) := by decide +kernel
theorem dX4_edges_11 : decode cX4_edges 11 = .ok (.iconst 0, 1) := by decide +kernel
theorem dX4_edges_12 : decode cX4_edges 12 = .ok (.istore_n 3, 1) := by decide +kernel
theorem dX4_edges_13 : decode cX4_edges 13 = .ok (.iload_n 3, 1) := by decide +kernel
theorem dX4_edges_14 : decode cX4_edges 14 = .ok (.iconst 3, 1) := by decide +kernel
theorem dX4_edges_15 : decode cX4_edges 15 = .ok (.if_icmp .ge 80, 3) := by decide +kernel
theorem dX4_edges_18 : decode cX4_edges 18 = .ok (.iconst 0, 1) := by decide +kernel
theorem dX4_edges_19 : decode cX4_edges 19 = .ok (.istore 4, 2) := by decide +kernel
theorem dX4_edges_21 : decode cX4_edges 21 = .ok (.iload 4, 2) := by decide +kernel
theorem dX4_edges_23 : decode cX4_edges 23 = .ok (.bipush 12, 2) := by decide +kernel
theorem dX4_edges_25 : decode cX4_edges 25 = .ok (.if_icmp .ge 64, 3) := by decide +kernel
theorem dX4_edges_28 : decode cX4_edges 28 = .ok (.iconst 0, 1) := by decide +kernel
theorem dX4_edges_29 : decode cX4_edges 29 = .ok (.istore 5, 2) := by decide +kernel
theorem dX4_edges_31 : decode cX4_edges 31 = .ok (.iload 5, 2) := by decide +kernel
theorem dX4_edges_33 : decode cX4_edges 33 = .ok (.bipush 13, 2) := by decide +kernel
theorem dX4_edges_35 : decode cX4_edges 35 = .ok (.if_icmp .ge 48, 3) := by decide +kernel
theorem dX4_edges_38 : decode cX4_edges 38 = .ok (.iconst 0, 1) := by decide +kernel
theorem dX4_edges_39 : decode cX4_edges 39 = .ok (.istore 6, 2) := by decide +kernel
theorem dX4_edges_41 : decode cX4_edges 41 = .ok (.iload 6, 2) := by decide +kernel
theorem dX4_edges_43 : decode cX4_edges 43 = .ok (.bipush 13, 2) := by decide +kernel
theorem dX4_edges_45 : decode cX4_edges 45 = .ok (.if_icmp .ge 32, 3) := by decide +kernel
theorem dX4_edges_48 : decode cX4_edges 48 = .ok (.iload_n 2, 1) := by decide +kernel
theorem dX4_edges_49 : decode cX4_edges 49 = .ok (.aload_n 0, 1) := by decide +kernel
theorem dX4_edges_50 : decode cX4_edges 50 = .ok (.iload_n 1, 1) := by decide +kernel
theorem dX4_edges_51 : decode cX4_edges 51 = .ok (.iload_n 3, 1) := by decide +kernel
theorem dX4_edges_52 : decode cX4_edges 52 = .ok (.iload 4, 2) := by decide +kernel
theorem dX4_edges_54 : decode cX4_edges 54 = .ok (.iload 5, 2) := by decide +kernel
theorem dX4_edges_56 : decode cX4_edges 56 = .ok (.iload 6, 2) := by decide +kernel
theorem dX4_edges_58 : decode cX4_edges 58 = .ok (.invokevirtual 70, 3) := by decide +kernel
theorem dX4_edges_61 : decode cX4_edges 61 = .ok (.ifCond .eq 7, 3) := by decide +kernel
theorem dX4_edges_64 : decode cX4_edges 64 = .ok (.iconst 1, 1) := by decide +kernel
theorem dX4_edges_65 : decode cX4_edges 65 = .ok (.goto 4, 3) := by decide +kernel
theorem dX4_edges_68 : decode cX4_edges 68 = .ok (.iconst 0, 1) := by decide +kernel
theorem dX4_edges_69 : decode cX4_edges 69 = .ok (.iadd, 1) := by decide +kernel
theorem dX4_edges_70 : decode cX4_edges 70 = .ok (.istore_n 2, 1) := by decide +kernel
theorem dX4_edges_71 : decode cX4_edges 71 = .ok (.iinc 6 1, 3) := by decide +kernel
theorem dX4_edges_74 : decode cX4_edges 74 = .ok (.goto (-33), 3) := by decide +kernel
theorem dX4_edges_77 : decode cX4_edges 77 = .ok (.iinc 5 1, 3) := by decide +kernel
theorem dX4_edges_80 : decode cX4_edges 80 = .ok (.goto (-49), 3) := by decide +kernel
theorem dX4_edges_83 : decode cX4_edges 83 = .ok (.iinc 4 1, 3) := by decide +kernel
theorem dX4_edges_86 : decode cX4_edges 86 = .ok (.goto (-65), 3) := by decide +kernel
theorem dX4_edges_89 : decode cX4_edges 89 = .ok (.iinc 3 1, 3) := by decide +kernel
theorem dX4_edges_92 : decode cX4_edges 92 = .ok (.goto (-79), 3) := by decide +kernel
theorem dX4_edges_95 : decode cX4_edges 95 = .ok (.iload_n 2, 1) := by decide +kernel
theorem dX4_edges_96 : decode cX4_edges 96 = .ok (.ireturn, 1) := by decide +kernel
theorem dX4_see_0 : decode cX4_see 0 = .ok (.iload_n 3, 1) := by decide +kernel
theorem dX4_see_1 : decode cX4_see 1 = .ok (.bipush 12, 2) := by decide +kernel
theorem dX4_see_3 : decode cX4_see 3 = .ok (.invokestatic 22, 3) := by decide +kernel
theorem dX4_see_6 : decode cX4_see 6 = .ok (.ifCond .eq 58, 3) := by decide +kernel
theorem dX4_see_9 : decode cX4_see 9 = .ok (.iload 4, 2) := by decide +kernel
theorem dX4_see_11 : decode cX4_see 11 = .ok (.bipush 12, 2) := by decide +kernel
theorem dX4_see_13 : decode cX4_see 13 = .ok (.invokestatic 22, 3) := by decide +kernel
theorem dX4_see_16 : decode cX4_see 16 = .ok (.ifCond .eq 48, 3) := by decide +kernel
theorem dX4_see_19 : decode cX4_see 19 = .ok (.iload 5, 2) := by decide +kernel
theorem dX4_see_21 : decode cX4_see 21 = .ok (.bipush 12, 2) := by decide +kernel
theorem dX4_see_23 : decode cX4_see 23 = .ok (.invokestatic 22, 3) := by decide +kernel
theorem dX4_see_26 : decode cX4_see 26 = .ok (.ifCond .eq 38, 3) := by decide +kernel
theorem dX4_see_29 : decode cX4_see 29 = .ok (.aload_n 0, 1) := by decide +kernel
theorem dX4_see_30 : decode cX4_see 30 = .ok (.iload_n 1, 1) := by decide +kernel
theorem dX4_see_31 : decode cX4_see 31 = .ok (.iload_n 3, 1) := by decide +kernel
theorem dX4_see_32 : decode cX4_see 32 = .ok (.iload 4, 2) := by decide +kernel
theorem dX4_see_34 : decode cX4_see 34 = .ok (.iload 5, 2) := by decide +kernel
theorem dX4_see_36 : decode cX4_see 36 = .ok (.invokevirtual 26, 3) := by decide +kernel
theorem dX4_see_39 : decode cX4_see 39 = .ok (.iload_n 2, 1) := by decide +kernel
theorem dX4_see_40 : decode cX4_see 40 = .ok (.if_icmp .ne 24, 3) := by decide +kernel
theorem dX4_see_43 : decode cX4_see 43 = .ok (.aload_n 0, 1) := by decide +kernel
theorem dX4_see_44 : decode cX4_see 44 = .ok (.getfield 16, 3) := by decide +kernel
theorem dX4_see_47 : decode cX4_see 47 = .ok (.bipush 12, 2) := by decide +kernel
theorem dX4_see_49 : decode cX4_see 49 = .ok (.iload_n 3, 1) := by decide +kernel
theorem dX4_see_50 : decode cX4_see 50 = .ok (.imul, 1) := by decide +kernel
theorem dX4_see_51 : decode cX4_see 51 = .ok (.iload 4, 2) := by decide +kernel
theorem dX4_see_53 : decode cX4_see 53 = .ok (.iadd, 1) := by decide +kernel
theorem dX4_see_54 : decode cX4_see 54 = .ok (.iaload, 1) := by decide +kernel
theorem dX4_see_55 : decode cX4_see 55 = .ok (.iload 5, 2) := by decide +kernel
theorem dX4_see_57 : decode cX4_see 57 = .ok (.ishr, 1) := by decide +kernel
theorem dX4_see_58 : decode cX4_see 58 = .ok (.iconst 1, 1) := by decide +kernel
theorem dX4_see_59 : decode cX4_see 59 = .ok (.iand, 1) := by decide +kernel
theorem dX4_see_60 : decode cX4_see 60 = .ok (.iconst 1, 1) := by decide +kernel
theorem dX4_see_61 : decode cX4_see 61 = .ok (.if_icmp .ne 4, 3) := by decide +kernel
theorem dX4_see_64 : decode cX4_see 64 = .ok (.return_, 1) := by decide +kernel
theorem dX4_see_65 : decode cX4_see 65 = .ok (.aload_n 0, 1) := by decide +kernel
theorem dX4_see_66 : decode cX4_see 66 = .ok (.getfield 16, 3) := by decide +kernel
theorem dX4_see_69 : decode cX4_see 69 = .ok (.bipush 12, 2) := by decide +kernel
theorem dX4_see_71 : decode cX4_see 71 = .ok (.iload_n 3, 1) := by decide +kernel
theorem dX4_see_72 : decode cX4_see 72 = .ok (.imul, 1) := by decide +kernel
theorem dX4_see_73 : decode cX4_see 73 = .ok (.iload 4, 2) := by decide +kernel
theorem dX4_see_75 : decode cX4_see 75 = .ok (.iadd, 1) := by decide +kernel
theorem dX4_see_76 : decode cX4_see 76 = .ok (.dup2, 1) := by decide +kernel
theorem dX4_see_77 : decode cX4_see 77 = .ok (.iaload, 1) := by decide +kernel
theorem dX4_see_78 : decode cX4_see 78 = .ok (.iconst 1, 1) := by decide +kernel
theorem dX4_see_79 : decode cX4_see 79 = .ok (.iload 5, 2) := by decide +kernel
theorem dX4_see_81 : decode cX4_see 81 = .ok (.ishl, 1) := by decide +kernel
theorem dX4_see_82 : decode cX4_see 82 = .ok (.ior, 1) := by decide +kernel
theorem dX4_see_83 : decode cX4_see 83 = .ok (.iastore, 1) := by decide +kernel
theorem dX4_see_84 : decode cX4_see 84 = .ok (.aload_n 0, 1) := by decide +kernel
theorem dX4_see_85 : decode cX4_see 85 = .ok (.getfield 19, 3) := by decide +kernel
theorem dX4_see_88 : decode cX4_see 88 = .ok (.aload_n 0, 1) := by decide +kernel
theorem dX4_see_89 : decode cX4_see 89 = .ok (.getfield 73, 3) := by decide +kernel
theorem dX4_see_92 : decode cX4_see 92 = .ok (.sipush 144, 3) := by decide +kernel
theorem dX4_see_95 : decode cX4_see 95 = .ok (.iload_n 3, 1) := by decide +kernel
theorem dX4_see_96 : decode cX4_see 96 = .ok (.imul, 1) := by decide +kernel
theorem dX4_see_97 : decode cX4_see 97 = .ok (.bipush 12, 2) := by decide +kernel
theorem dX4_see_99 : decode cX4_see 99 = .ok (.iload 4, 2) := by decide +kernel
theorem dX4_see_101 : decode cX4_see 101 = .ok (.imul, 1) := by decide +kernel
theorem dX4_see_102 : decode cX4_see 102 = .ok (.iadd, 1) := by decide +kernel
theorem dX4_see_103 : decode cX4_see 103 = .ok (.iload 5, 2) := by decide +kernel
theorem dX4_see_105 : decode cX4_see 105 = .ok (.iadd, 1) := by decide +kernel
theorem dX4_see_106 : decode cX4_see 106 = .ok (.iastore, 1) := by decide +kernel
theorem dX4_see_107 : decode cX4_see 107 = .ok (.aload_n 0, 1) := by decide +kernel
theorem dX4_see_108 : decode cX4_see 108 = .ok (.dup, 1) := by decide +kernel
theorem dX4_see_109 : decode cX4_see 109 = .ok (.getfield 73, 3) := by decide +kernel
theorem dX4_see_112 : decode cX4_see 112 = .ok (.iconst 1, 1) := by decide +kernel
theorem dX4_see_113 : decode cX4_see 113 = .ok (.iadd, 1) := by decide +kernel
theorem dX4_see_114 : decode cX4_see 114 = .ok (.putfield 73, 3) := by decide +kernel
theorem dX4_see_117 : decode cX4_see 117 = .ok (.return_, 1) := by decide +kernel
theorem dX4_isBorder_0 : decode cX4_isBorder 0 = .ok (.iload_n 0, 1) := by decide +kernel
theorem dX4_isBorder_1 : decode cX4_isBorder 1 = .ok (.ifCond .eq 9, 3) := by decide +kernel
theorem dX4_isBorder_4 : decode cX4_isBorder 4 = .ok (.iload_n 0, 1) := by decide +kernel
theorem dX4_isBorder_5 : decode cX4_isBorder 5 = .ok (.bipush 11, 2) := by decide +kernel
theorem dX4_isBorder_7 : decode cX4_isBorder 7 = .ok (.if_icmp .ne 7, 3) := by decide +kernel
theorem dX4_isBorder_10 : decode cX4_isBorder 10 = .ok (.iconst 1, 1) := by decide +kernel
theorem dX4_isBorder_11 : decode cX4_isBorder 11 = .ok (.goto 4, 3) := by decide +kernel
theorem dX4_isBorder_14 : decode cX4_isBorder 14 = .ok (.iconst 0, 1) := by decide +kernel
theorem dX4_isBorder_15 : decode cX4_isBorder 15 = .ok (.ireturn, 1) := by decide +kernel
theorem dX4_spread_0 : decode cX4_spread 0 = .ok (.aload_n 0, 1) := by decide +kernel
theorem dX4_spread_1 : decode cX4_spread 1 = .ok (.iconst 0, 1) := by decide +kernel
theorem dX4_spread_2 : decode cX4_spread 2 = .ok (.putfield 76, 3) := by decide +kernel
theorem dX4_spread_5 : decode cX4_spread 5 = .ok (.aload_n 0, 1) := by decide +kernel
theorem dX4_spread_6 : decode cX4_spread 6 = .ok (.getfield 73, 3) := by decide +kernel
theorem dX4_spread_9 : decode cX4_spread 9 = .ok (.ifCond .le 178, 3) := by decide +kernel
theorem dX4_spread_12 : decode cX4_spread 12 = .ok (.aload_n 0, 1) := by decide +kernel
theorem dX4_spread_13 : decode cX4_spread 13 = .ok (.dup, 1) := by decide +kernel
theorem dX4_spread_14 : decode cX4_spread 14 = .ok (.getfield 73, 3) := by decide +kernel
theorem dX4_spread_17 : decode cX4_spread 17 = .ok (.iconst 1, 1) := by decide +kernel
theorem dX4_spread_18 : decode cX4_spread 18 = .ok (.isub, 1) := by decide +kernel
theorem dX4_spread_19 : decode cX4_spread 19 = .ok (.putfield 73, 3) := by decide +kernel
theorem dX4_spread_22 : decode cX4_spread 22 = .ok (.aload_n 0, 1) := by decide +kernel
theorem dX4_spread_23 : decode cX4_spread 23 = .ok (.getfield 19, 3) := by decide +kernel
theorem dX4_spread_26 : decode cX4_spread 26 = .ok (.aload_n 0, 1) := by decide +kernel
theorem dX4_spread_27 : decode cX4_spread 27 = .ok (.getfield 73, 3) := by decide +kernel
theorem dX4_spread_30 : decode cX4_spread 30 = .ok (.iaload, 1) := by decide +kernel
theorem dX4_spread_31 : decode cX4_spread 31 = .ok (.sipush 144, 3) := by decide +kernel
theorem dX4_spread_34 : decode cX4_spread 34 = .ok (.idiv, 1) := by decide +kernel
theorem dX4_spread_35 : decode cX4_spread 35 = .ok (.istore_n 3, 1) := by decide +kernel
theorem dX4_spread_36 : decode cX4_spread 36 = .ok (.aload_n 0, 1) := by decide +kernel
theorem dX4_spread_37 : decode cX4_spread 37 = .ok (.getfield 19, 3) := by decide +kernel
theorem dX4_spread_40 : decode cX4_spread 40 = .ok (.aload_n 0, 1) := by decide +kernel
theorem dX4_spread_41 : decode cX4_spread 41 = .ok (.getfield 73, 3) := by decide +kernel
theorem dX4_spread_44 : decode cX4_spread 44 = .ok (.iaload, 1) := by decide +kernel
theorem dX4_spread_45 : decode cX4_spread 45 = .ok (.bipush 12, 2) := by decide +kernel
theorem dX4_spread_47 : decode cX4_spread 47 = .ok (.idiv, 1) := by decide +kernel
theorem dX4_spread_48 : decode cX4_spread 48 = .ok (.bipush 12, 2) := by decide +kernel
theorem dX4_spread_50 : decode cX4_spread 50 = .ok (.irem, 1) := by decide +kernel
theorem dX4_spread_51 : decode cX4_spread 51 = .ok (.istore 4, 2) := by decide +kernel
theorem dX4_spread_53 : decode cX4_spread 53 = .ok (.aload_n 0, 1) := by decide +kernel
theorem dX4_spread_54 : decode cX4_spread 54 = .ok (.getfield 19, 3) := by decide +kernel
theorem dX4_spread_57 : decode cX4_spread 57 = .ok (.aload_n 0, 1) := by decide +kernel
theorem dX4_spread_58 : decode cX4_spread 58 = .ok (.getfield 73, 3) := by decide +kernel
theorem dX4_spread_61 : decode cX4_spread 61 = .ok (.iaload, 1) := by decide +kernel
theorem dX4_spread_62 : decode cX4_spread 62 = .ok (.bipush 12, 2) := by decide +kernel
theorem dX4_spread_64 : decode cX4_spread 64 = .ok (.irem, 1) := by decide +kernel
theorem dX4_spread_65 : decode cX4_spread 65 = .ok (.istore 5, 2) := by decide +kernel
theorem dX4_spread_67 : decode cX4_spread 67 = .ok (.aload_n 0, 1) := by decide +kernel
theorem dX4_spread_68 : decode cX4_spread 68 = .ok (.aload_n 0, 1) := by decide +kernel
theorem dX4_spread_69 : decode cX4_spread 69 = .ok (.getfield 76, 3) := by decide +kernel
theorem dX4_spread_72 : decode cX4_spread 72 = .ok (.ifCond .ne 26, 3) := by decide +kernel
theorem dX4_spread_75 : decode cX4_spread 75 = .ok (.iload_n 3, 1) := by decide +kernel
theorem dX4_spread_76 : decode cX4_spread 76 = .ok (.invokestatic 80, 3) := by decide +kernel
theorem dX4_spread_79 : decode cX4_spread 79 = .ok (.ifCond .ne 19, 3) := by decide +kernel
theorem dX4_spread_82 : decode cX4_spread 82 = .ok (.iload 4, 2) := by decide +kernel
theorem dX4_spread_84 : decode cX4_spread 84 = .ok (.invokestatic 80, 3) := by decide +kernel
theorem dX4_spread_87 : decode cX4_spread 87 = .ok (.ifCond .ne 11, 3) := by decide +kernel
theorem dX4_spread_90 : decode cX4_spread 90 = .ok (.iload 5, 2) := by decide +kernel
theorem dX4_spread_92 : decode cX4_spread 92 = .ok (.invokestatic 80, 3) := by decide +kernel
theorem dX4_spread_95 : decode cX4_spread 95 = .ok (.ifCond .eq 7, 3) := by decide +kernel
theorem dX4_spread_98 : decode cX4_spread 98 = .ok (.iconst 1, 1) := by decide +kernel
theorem dX4_spread_99 : decode cX4_spread 99 = .ok (.goto 4, 3) := by decide +kernel
theorem dX4_spread_102 : decode cX4_spread 102 = .ok (.iconst 0, 1) := by decide +kernel
theorem dX4_spread_103 : decode cX4_spread 103 = .ok (.putfield 76, 3) := by decide +kernel
theorem dX4_spread_106 : decode cX4_spread 106 = .ok (.aload_n 0, 1) := by decide +kernel
theorem dX4_spread_107 : decode cX4_spread 107 = .ok (.iload_n 1, 1) := by decide +kernel
theorem dX4_spread_108 : decode cX4_spread 108 = .ok (.iload_n 2, 1) := by decide +kernel
theorem dX4_spread_109 : decode cX4_spread 109 = .ok (.iload_n 3, 1) := by decide +kernel
theorem dX4_spread_110 : decode cX4_spread 110 = .ok (.iconst 1, 1) := by decide +kernel
theorem dX4_spread_111 : decode cX4_spread 111 = .ok (.isub, 1) := by decide +kernel
theorem dX4_spread_112 : decode cX4_spread 112 = .ok (.iload 4, 2) := by decide +kernel
theorem dX4_spread_114 : decode cX4_spread 114 = .ok (.iload 5, 2) := by decide +kernel
theorem dX4_spread_116 : decode cX4_spread 116 = .ok (.invokevirtual 83, 3) := by decide +kernel
theorem dX4_spread_119 : decode cX4_spread 119 = .ok (.aload_n 0, 1) := by decide +kernel
theorem dX4_spread_120 : decode cX4_spread 120 = .ok (.iload_n 1, 1) := by decide +kernel
theorem dX4_spread_121 : decode cX4_spread 121 = .ok (.iload_n 2, 1) := by decide +kernel
theorem dX4_spread_122 : decode cX4_spread 122 = .ok (.iload_n 3, 1) := by decide +kernel
theorem dX4_spread_123 : decode cX4_spread 123 = .ok (.iconst 1, 1) := by decide +kernel
theorem dX4_spread_124 : decode cX4_spread 124 = .ok (.iadd, 1) := by decide +kernel
theorem dX4_spread_125 : decode cX4_spread 125 = .ok (.iload 4, 2) := by decide +kernel
theorem dX4_spread_127 : decode cX4_spread 127 = .ok (.iload 5, 2) := by decide +kernel
theorem dX4_spread_129 : decode cX4_spread 129 = .ok (.invokevirtual 83, 3) := by decide +kernel
theorem dX4_spread_132 : decode cX4_spread 132 = .ok (.aload_n 0, 1) := by decide +kernel
theorem dX4_spread_133 : decode cX4_spread 133 = .ok (.iload_n 1, 1) := by decide +kernel
theorem dX4_spread_134 : decode cX4_spread 134 = .ok (.iload_n 2, 1) := by decide +kernel
theorem dX4_spread_135 : decode cX4_spread 135 = .ok (.iload_n 3, 1) := by decide +kernel
theorem dX4_spread_136 : decode cX4_spread 136 = .ok (.iload 4, 2) := by decide +kernel
theorem dX4_spread_138 : decode cX4_spread 138 = .ok (.iconst 1, 1) := by decide +kernel
theorem dX4_spread_139 : decode cX4_spread 139 = .ok (.isub, 1) := by decide +kernel
theorem dX4_spread_140 : decode cX4_spread 140 = .ok (.iload 5, 2) := by decide +kernel
theorem dX4_spread_142 : decode cX4_spread 142 = .ok (.invokevirtual 83, 3) := by decide +kernel
theorem dX4_spread_145 : decode cX4_spread 145 = .ok (.aload_n 0, 1) := by decide +kernel
theorem dX4_spread_146 : decode cX4_spread 146 = .ok (.iload_n 1, 1) := by decide +kernel
theorem dX4_spread_147 : decode cX4_spread 147 = .ok (.iload_n 2, 1) := by decide +kernel
theorem dX4_spread_148 : decode cX4_spread 148 = .ok (.iload_n 3, 1) := by decide +kernel
theorem dX4_spread_149 : decode cX4_spread 149 = .ok (.iload 4, 2) := by decide +kernel
theorem dX4_spread_151 : decode cX4_spread 151 = .ok (.iconst 1, 1) := by decide +kernel
theorem dX4_spread_152 : decode cX4_spread 152 = .ok (.iadd, 1) := by decide +kernel
theorem dX4_spread_153 : decode cX4_spread 153 = .ok (.iload 5, 2) := by decide +kernel
theorem dX4_spread_155 : decode cX4_spread 155 = .ok (.invokevirtual 83, 3) := by decide +kernel
theorem dX4_spread_158 : decode cX4_spread 158 = .ok (.aload_n 0, 1) := by decide +kernel
theorem dX4_spread_159 : decode cX4_spread 159 = .ok (.iload_n 1, 1) := by decide +kernel
theorem dX4_spread_160 : decode cX4_spread 160 = .ok (.iload_n 2, 1) := by decide +kernel
theorem dX4_spread_161 : decode cX4_spread 161 = .ok (.iload_n 3, 1) := by decide +kernel
theorem dX4_spread_162 : decode cX4_spread 162 = .ok (.iload 4, 2) := by decide +kernel
theorem dX4_spread_164 : decode cX4_spread 164 = .ok (.iload 5, 2) := by decide +kernel
theorem dX4_spread_166 : decode cX4_spread 166 = .ok (.iconst 1, 1) := by decide +kernel
theorem dX4_spread_167 : decode cX4_spread 167 = .ok (.isub, 1) := by decide +kernel
theorem dX4_spread_168 : decode cX4_spread 168 = .ok (.invokevirtual 83, 3) := by decide +kernel
theorem dX4_spread_171 : decode cX4_spread 171 = .ok (.aload_n 0, 1) := by decide +kernel
theorem dX4_spread_172 : decode cX4_spread 172 = .ok (.iload_n 1, 1) := by decide +kernel
theorem dX4_spread_173 : decode cX4_spread 173 = .ok (.iload_n 2, 1) := by decide +kernel
theorem dX4_spread_174 : decode cX4_spread 174 = .ok (.iload_n 3, 1) := by decide +kernel
theorem dX4_spread_175 : decode cX4_spread 175 = .ok (.iload 4, 2) := by decide +kernel
theorem dX4_spread_177 : decode cX4_spread 177 = .ok (.iload 5, 2) := by decide +kernel
theorem dX4_spread_179 : decode cX4_spread 179 = .ok (.iconst 1, 1) := by decide +kernel
theorem dX4_spread_180 : decode cX4_spread 180 = .ok (.iadd, 1) := by decide +kernel
theorem dX4_spread_181 : decode cX4_spread 181 = .ok (.invokevirtual 83, 3) := by decide +kernel
theorem dX4_spread_184 : decode cX4_spread 184 = .ok (.goto (-179), 3) := by decide +kernel
theorem dX4_spread_187 : decode cX4_spread 187 = .ok (.return_, 1) := by decide +kernel
theorem dX4_sets_0 : decode cX4_sets 0 = .ok (.iconst 0, 1) := by decide +kernel
theorem dX4_sets_1 : decode cX4_sets 1 = .ok (.istore_n 3, 1) := by decide +kernel
theorem dX4_sets_2 : decode cX4_sets 2 = .ok (.iload_n 3, 1) := by decide +kernel
theorem dX4_sets_3 : decode cX4_sets 3 = .ok (.sipush 144, 3) := by decide +kernel
theorem dX4_sets_6 : decode cX4_sets 6 = .ok (.if_icmp .ge 16, 3) := by decide +kernel
theorem dX4_sets_9 : decode cX4_sets 9 = .ok (.aload_n 0, 1) := by decide +kernel
theorem dX4_sets_10 : decode cX4_sets 10 = .ok (.getfield 16, 3) := by decide +kernel
theorem dX4_sets_13 : decode cX4_sets 13 = .ok (.iload_n 3, 1) := by decide +kernel
theorem dX4_sets_14 : decode cX4_sets 14 = .ok (.iconst 0, 1) := by decide +kernel
theorem dX4_sets_15 : decode cX4_sets 15 = .ok (.iastore, 1) := by decide +kernel
theorem dX4_sets_16 : decode cX4_sets 16 = .ok (.iinc 3 1, 3) := by decide +kernel
theorem dX4_sets_19 : decode cX4_sets 19 = .ok (.goto (-17), 3) := by decide +kernel
theorem dX4_sets_22 : decode cX4_sets 22 = .ok (.iconst 0, 1) := by decide +kernel
theorem dX4_sets_23 : decode cX4_sets 23 = .ok (.istore_n 3, 1) := by decide +kernel
theorem dX4_sets_24 : decode cX4_sets 24 = .ok (.iconst 0, 1) := by decide +kernel
theorem dX4_sets_25 : decode cX4_sets 25 = .ok (.istore 4, 2) := by decide +kernel
theorem dX4_sets_27 : decode cX4_sets 27 = .ok (.iload 4, 2) := by decide +kernel
theorem dX4_sets_29 : decode cX4_sets 29 = .ok (.sipush 1728, 3) := by decide +kernel
theorem dX4_sets_32 : decode cX4_sets 32 = .ok (.if_icmp .ge 71, 3) := by decide +kernel
theorem dX4_sets_35 : decode cX4_sets 35 = .ok (.aload_n 0, 1) := by decide +kernel
theorem dX4_sets_36 : decode cX4_sets 36 = .ok (.iconst 0, 1) := by decide +kernel
theorem dX4_sets_37 : decode cX4_sets 37 = .ok (.putfield 73, 3) := by decide +kernel
theorem dX4_sets_40 : decode cX4_sets 40 = .ok (.aload_n 0, 1) := by decide +kernel
theorem dX4_sets_41 : decode cX4_sets 41 = .ok (.iload_n 1, 1) := by decide +kernel
theorem dX4_sets_42 : decode cX4_sets 42 = .ok (.iload_n 2, 1) := by decide +kernel
theorem dX4_sets_43 : decode cX4_sets 43 = .ok (.iload 4, 2) := by decide +kernel
theorem dX4_sets_45 : decode cX4_sets 45 = .ok (.sipush 144, 3) := by decide +kernel
theorem dX4_sets_48 : decode cX4_sets 48 = .ok (.idiv, 1) := by decide +kernel
theorem dX4_sets_49 : decode cX4_sets 49 = .ok (.iload 4, 2) := by decide +kernel
theorem dX4_sets_51 : decode cX4_sets 51 = .ok (.bipush 12, 2) := by decide +kernel
theorem dX4_sets_53 : decode cX4_sets 53 = .ok (.idiv, 1) := by decide +kernel
theorem dX4_sets_54 : decode cX4_sets 54 = .ok (.bipush 12, 2) := by decide +kernel
theorem dX4_sets_56 : decode cX4_sets 56 = .ok (.irem, 1) := by decide +kernel
theorem dX4_sets_57 : decode cX4_sets 57 = .ok (.iload 4, 2) := by decide +kernel
theorem dX4_sets_59 : decode cX4_sets 59 = .ok (.bipush 12, 2) := by decide +kernel
theorem dX4_sets_61 : decode cX4_sets 61 = .ok (.irem, 1) := by decide +kernel
theorem dX4_sets_62 : decode cX4_sets 62 = .ok (.invokevirtual 83, 3) := by decide +kernel
theorem dX4_sets_65 : decode cX4_sets 65 = .ok (.aload_n 0, 1) := by decide +kernel
theorem dX4_sets_66 : decode cX4_sets 66 = .ok (.getfield 73, 3) := by decide +kernel
theorem dX4_sets_69 : decode cX4_sets 69 = .ok (.ifCond .le 28, 3) := by decide +kernel
theorem dX4_sets_72 : decode cX4_sets 72 = .ok (.aload_n 0, 1) := by decide +kernel
theorem dX4_sets_73 : decode cX4_sets 73 = .ok (.iload_n 1, 1) := by decide +kernel
theorem dX4_sets_74 : decode cX4_sets 74 = .ok (.iload_n 2, 1) := by decide +kernel
theorem dX4_sets_75 : decode cX4_sets 75 = .ok (.invokevirtual 87, 3) := by decide +kernel
theorem dX4_sets_78 : decode cX4_sets 78 = .ok (.iload_n 3, 1) := by decide +kernel
theorem dX4_sets_79 : decode cX4_sets 79 = .ok (.iload_n 2, 1) := by decide +kernel
theorem dX4_sets_80 : decode cX4_sets 80 = .ok (.ifCond .ne 10, 3) := by decide +kernel
theorem dX4_sets_83 : decode cX4_sets 83 = .ok (.aload_n 0, 1) := by decide +kernel
theorem dX4_sets_84 : decode cX4_sets 84 = .ok (.getfield 76, 3) := by decide +kernel
theorem dX4_sets_87 : decode cX4_sets 87 = .ok (.ifCond .ne 7, 3) := by decide +kernel
theorem dX4_sets_90 : decode cX4_sets 90 = .ok (.iconst 1, 1) := by decide +kernel
theorem dX4_sets_91 : decode cX4_sets 91 = .ok (.goto 4, 3) := by decide +kernel
theorem dX4_sets_94 : decode cX4_sets 94 = .ok (.iconst 0, 1) := by decide +kernel
theorem dX4_sets_95 : decode cX4_sets 95 = .ok (.iadd, 1) := by decide +kernel
theorem dX4_sets_96 : decode cX4_sets 96 = .ok (.istore_n 3, 1) := by decide +kernel
theorem dX4_sets_97 : decode cX4_sets 97 = .ok (.iinc 4 1, 3) := by decide +kernel
theorem dX4_sets_100 : decode cX4_sets 100 = .ok (.goto (-73), 3) := by decide +kernel
theorem dX4_sets_103 : decode cX4_sets 103 = .ok (.iload_n 3, 1) := by decide +kernel
theorem dX4_sets_104 : decode cX4_sets 104 = .ok (.ireturn, 1) := by decide +kernel
theorem dX4_pieces_0 : decode cX4_pieces 0 = .ok (.iload_n 1, 1) := by decide +kernel
theorem dX4_pieces_1 : decode cX4_pieces 1 = .ok (.invokestatic 45, 3) := by decide +kernel
theorem dX4_pieces_4 : decode cX4_pieces 4 = .ok (.ifCond .eq 12, 3) := by decide +kernel
theorem dX4_pieces_7 : decode cX4_pieces 7 = .ok (.aload_n 0, 1) := by decide +kernel
theorem dX4_pieces_8 : decode cX4_pieces 8 = .ok (.iload_n 1, 1) := by decide +kernel
theorem dX4_pieces_9 : decode cX4_pieces 9 = .ok (.iconst 1, 1) := by decide +kernel
theorem dX4_pieces_10 : decode cX4_pieces 10 = .ok (.invokevirtual 91, 3) := by decide +kernel
theorem dX4_pieces_13 : decode cX4_pieces 13 = .ok (.goto 4, 3) := by decide +kernel
theorem dX4_pieces_16 : decode cX4_pieces 16 = .ok (.iconst (-1), 1) := by decide +kernel
theorem dX4_pieces_17 : decode cX4_pieces 17 = .ok (.ireturn, 1) := by decide +kernel
theorem dX4_hollows_0 : decode cX4_hollows 0 = .ok (.iload_n 1, 1) := by decide +kernel
theorem dX4_hollows_1 : decode cX4_hollows 1 = .ok (.invokestatic 45, 3) := by decide +kernel
theorem dX4_hollows_4 : decode cX4_hollows 4 = .ok (.ifCond .eq 12, 3) := by decide +kernel
theorem dX4_hollows_7 : decode cX4_hollows 7 = .ok (.aload_n 0, 1) := by decide +kernel
theorem dX4_hollows_8 : decode cX4_hollows 8 = .ok (.iload_n 1, 1) := by decide +kernel
theorem dX4_hollows_9 : decode cX4_hollows 9 = .ok (.iconst 0, 1) := by decide +kernel
theorem dX4_hollows_10 : decode cX4_hollows 10 = .ok (.invokevirtual 91, 3) := by decide +kernel
theorem dX4_hollows_13 : decode cX4_hollows 13 = .ok (.goto 4, 3) := by decide +kernel
theorem dX4_hollows_16 : decode cX4_hollows 16 = .ok (.iconst (-1), 1) := by decide +kernel
theorem dX4_hollows_17 : decode cX4_hollows 17 = .ok (.ireturn, 1) := by decide +kernel
theorem dX4_countAt_0 : decode cX4_countAt 0 = .ok (.iconst 0, 1) := by decide +kernel
theorem dX4_countAt_1 : decode cX4_countAt 1 = .ok (.istore 4, 2) := by decide +kernel
theorem dX4_countAt_3 : decode cX4_countAt 3 = .ok (.iconst 0, 1) := by decide +kernel
theorem dX4_countAt_4 : decode cX4_countAt 4 = .ok (.istore 5, 2) := by decide +kernel
theorem dX4_countAt_6 : decode cX4_countAt 6 = .ok (.iload 5, 2) := by decide +kernel
theorem dX4_countAt_8 : decode cX4_countAt 8 = .ok (.sipush 144, 3) := by decide +kernel
theorem dX4_countAt_11 : decode cX4_countAt 11 = .ok (.if_icmp .ge 39, 3) := by decide +kernel
theorem dX4_countAt_14 : decode cX4_countAt 14 = .ok (.iload 4, 2) := by decide +kernel
theorem dX4_countAt_16 : decode cX4_countAt 16 = .ok (.aload_n 0, 1) := by decide +kernel
theorem dX4_countAt_17 : decode cX4_countAt 17 = .ok (.iload_n 1, 1) := by decide +kernel
theorem dX4_countAt_18 : decode cX4_countAt 18 = .ok (.iload_n 2, 1) := by decide +kernel
theorem dX4_countAt_19 : decode cX4_countAt 19 = .ok (.iload_n 3, 1) := by decide +kernel
theorem dX4_countAt_20 : decode cX4_countAt 20 = .ok (.iload 5, 2) := by decide +kernel
theorem dX4_countAt_22 : decode cX4_countAt 22 = .ok (.bipush 12, 2) := by decide +kernel
theorem dX4_countAt_24 : decode cX4_countAt 24 = .ok (.idiv, 1) := by decide +kernel
theorem dX4_countAt_25 : decode cX4_countAt 25 = .ok (.iload 5, 2) := by decide +kernel
theorem dX4_countAt_27 : decode cX4_countAt 27 = .ok (.bipush 12, 2) := by decide +kernel
theorem dX4_countAt_29 : decode cX4_countAt 29 = .ok (.irem, 1) := by decide +kernel
theorem dX4_countAt_30 : decode cX4_countAt 30 = .ok (.invokevirtual 66, 3) := by decide +kernel
theorem dX4_countAt_33 : decode cX4_countAt 33 = .ok (.ifCond .eq 7, 3) := by decide +kernel
theorem dX4_countAt_36 : decode cX4_countAt 36 = .ok (.iconst 1, 1) := by decide +kernel
theorem dX4_countAt_37 : decode cX4_countAt 37 = .ok (.goto 4, 3) := by decide +kernel
theorem dX4_countAt_40 : decode cX4_countAt 40 = .ok (.iconst 0, 1) := by decide +kernel
theorem dX4_countAt_41 : decode cX4_countAt 41 = .ok (.iadd, 1) := by decide +kernel
theorem dX4_countAt_42 : decode cX4_countAt 42 = .ok (.istore 4, 2) := by decide +kernel
theorem dX4_countAt_44 : decode cX4_countAt 44 = .ok (.iinc 5 1, 3) := by decide +kernel
theorem dX4_countAt_47 : decode cX4_countAt 47 = .ok (.goto (-41), 3) := by decide +kernel
theorem dX4_countAt_50 : decode cX4_countAt 50 = .ok (.iload 4, 2) := by decide +kernel
theorem dX4_countAt_52 : decode cX4_countAt 52 = .ok (.ireturn, 1) := by decide +kernel
theorem dX4_moment_0 : decode cX4_moment 0 = .ok (.iload_n 1, 1) := by decide +kernel
theorem dX4_moment_1 : decode cX4_moment 1 = .ok (.invokestatic 45, 3) := by decide +kernel
theorem dX4_moment_4 : decode cX4_moment 4 = .ok (.ifCond .eq 10, 3) := by decide +kernel
theorem dX4_moment_7 : decode cX4_moment 7 = .ok (.iload_n 2, 1) := by decide +kernel
theorem dX4_moment_8 : decode cX4_moment 8 = .ok (.invokestatic 59, 3) := by decide +kernel
theorem dX4_moment_11 : decode cX4_moment 11 = .ok (.ifCond .ne 5, 3) := by decide +kernel
theorem dX4_moment_14 : decode cX4_moment 14 = .ok (.iconst (-1), 1) := by decide +kernel
theorem dX4_moment_15 : decode cX4_moment 15 = .ok (.ireturn, 1) := by decide +kernel
theorem dX4_moment_16 : decode cX4_moment 16 = .ok (.iconst 0, 1) := by decide +kernel
theorem dX4_moment_17 : decode cX4_moment 17 = .ok (.istore_n 3, 1) := by decide +kernel
theorem dX4_moment_18 : decode cX4_moment 18 = .ok (.iconst 0, 1) := by decide +kernel
theorem dX4_moment_19 : decode cX4_moment 19 = .ok (.istore 4, 2) := by decide +kernel
theorem dX4_moment_21 : decode cX4_moment 21 = .ok (.iload 4, 2) := by decide +kernel
theorem dX4_moment_23 : decode cX4_moment 23 = .ok (.bipush 12, 2) := by decide +kernel
theorem dX4_moment_25 : decode cX4_moment 25 = .ok (.if_icmp .ge 27, 3) := by decide +kernel
theorem dX4_moment_28 : decode cX4_moment 28 = .ok (.iload_n 3, 1) := by decide +kernel
theorem dX4_moment_29 : decode cX4_moment 29 = .ok (.iconst 2, 1) := by decide +kernel
theorem dX4_moment_30 : decode cX4_moment 30 = .ok (.iload 4, 2) := by decide +kernel
theorem dX4_moment_32 : decode cX4_moment 32 = .ok (.imul, 1) := by decide +kernel
theorem dX4_moment_33 : decode cX4_moment 33 = .ok (.iconst 1, 1) := by decide +kernel
theorem dX4_moment_34 : decode cX4_moment 34 = .ok (.iadd, 1) := by decide +kernel
theorem dX4_moment_35 : decode cX4_moment 35 = .ok (.aload_n 0, 1) := by decide +kernel
theorem dX4_moment_36 : decode cX4_moment 36 = .ok (.iload_n 1, 1) := by decide +kernel
theorem dX4_moment_37 : decode cX4_moment 37 = .ok (.iload_n 2, 1) := by decide +kernel
theorem dX4_moment_38 : decode cX4_moment 38 = .ok (.iload 4, 2) := by decide +kernel
theorem dX4_moment_40 : decode cX4_moment 40 = .ok (.invokevirtual 95, 3) := by decide +kernel
theorem dX4_moment_43 : decode cX4_moment 43 = .ok (.imul, 1) := by decide +kernel
theorem dX4_moment_44 : decode cX4_moment 44 = .ok (.iadd, 1) := by decide +kernel
theorem dX4_moment_45 : decode cX4_moment 45 = .ok (.istore_n 3, 1) := by decide +kernel
theorem dX4_moment_46 : decode cX4_moment 46 = .ok (.iinc 4 1, 3) := by decide +kernel
theorem dX4_moment_49 : decode cX4_moment 49 = .ok (.goto (-28), 3) := by decide +kernel
theorem dX4_moment_52 : decode cX4_moment 52 = .ok (.iload_n 3, 1) := by decide +kernel
theorem dX4_moment_53 : decode cX4_moment 53 = .ok (.ireturn, 1) := by decide +kernel
theorem dX4_extent_0 : decode cX4_extent 0 = .ok (.iload_n 1, 1) := by decide +kernel
theorem dX4_extent_1 : decode cX4_extent 1 = .ok (.invokestatic 45, 3) := by decide +kernel
theorem dX4_extent_4 : decode cX4_extent 4 = .ok (.ifCond .eq 19, 3) := by decide +kernel
theorem dX4_extent_7 : decode cX4_extent 7 = .ok (.iload_n 2, 1) := by decide +kernel
theorem dX4_extent_8 : decode cX4_extent 8 = .ok (.invokestatic 59, 3) := by decide +kernel
theorem dX4_extent_11 : decode cX4_extent 11 = .ok (.ifCond .eq 12, 3) := by decide +kernel
theorem dX4_extent_14 : decode cX4_extent 14 = .ok (.iload_n 3, 1) := by decide +kernel
theorem dX4_extent_15 : decode cX4_extent 15 = .ok (.ifCond .lt 8, 3) := by decide +kernel
theorem dX4_extent_18 : decode cX4_extent 18 = .ok (.iload_n 3, 1) := by decide +kernel
theorem dX4_extent_19 : decode cX4_extent 19 = .ok (.iconst 1, 1) := by decide +kernel
theorem dX4_extent_20 : decode cX4_extent 20 = .ok (.if_icmp .le 5, 3) := by decide +kernel
theorem dX4_extent_23 : decode cX4_extent 23 = .ok (.iconst (-1), 1) := by decide +kernel
theorem dX4_extent_24 : decode cX4_extent 24 = .ok (.ireturn, 1) := by decide +kernel
theorem dX4_extent_25 : decode cX4_extent 25 = .ok (.bipush 12, 2) := by decide +kernel
theorem dX4_extent_27 : decode cX4_extent 27 = .ok (.istore 4, 2) := by decide +kernel
theorem dX4_extent_29 : decode cX4_extent 29 = .ok (.bipush 12, 2) := by decide +kernel
theorem dX4_extent_31 : decode cX4_extent 31 = .ok (.istore 5, 2) := by decide +kernel
theorem dX4_extent_33 : decode cX4_extent 33 = .ok (.iconst 0, 1) := by decide +kernel
theorem dX4_extent_34 : decode cX4_extent 34 = .ok (.istore 6, 2) := by decide +kernel
theorem dX4_extent_36 : decode cX4_extent 36 = .ok (.iload 6, 2) := by decide +kernel
theorem dX4_extent_38 : decode cX4_extent 38 = .ok (.bipush 12, 2) := by decide +kernel
theorem dX4_extent_40 : decode cX4_extent 40 = .ok (.if_icmp .ge 40, 3) := by decide +kernel
theorem dX4_extent_43 : decode cX4_extent 43 = .ok (.aload_n 0, 1) := by decide +kernel
theorem dX4_extent_44 : decode cX4_extent 44 = .ok (.iload_n 1, 1) := by decide +kernel
theorem dX4_extent_45 : decode cX4_extent 45 = .ok (.iload_n 2, 1) := by decide +kernel
theorem dX4_extent_46 : decode cX4_extent 46 = .ok (.iload 6, 2) := by decide +kernel
theorem dX4_extent_48 : decode cX4_extent 48 = .ok (.invokevirtual 95, 3) := by decide +kernel
theorem dX4_extent_51 : decode cX4_extent 51 = .ok (.ifCond .le 23, 3) := by decide +kernel
theorem dX4_extent_54 : decode cX4_extent 54 = .ok (.iload 4, 2) := by decide +kernel
theorem dX4_extent_56 : decode cX4_extent 56 = .ok (.bipush 12, 2) := by decide +kernel
theorem dX4_extent_58 : decode cX4_extent 58 = .ok (.if_icmp .ne 8, 3) := by decide +kernel
theorem dX4_extent_61 : decode cX4_extent 61 = .ok (.iload 6, 2) := by decide +kernel
theorem dX4_extent_63 : decode cX4_extent 63 = .ok (.goto 5, 3) := by decide +kernel
theorem dX4_extent_66 : decode cX4_extent 66 = .ok (.iload 4, 2) := by decide +kernel
theorem dX4_extent_68 : decode cX4_extent 68 = .ok (.istore 4, 2) := by decide +kernel
theorem dX4_extent_70 : decode cX4_extent 70 = .ok (.iload 6, 2) := by decide +kernel
theorem dX4_extent_72 : decode cX4_extent 72 = .ok (.istore 5, 2) := by decide +kernel
theorem dX4_extent_74 : decode cX4_extent 74 = .ok (.iinc 6 1, 3) := by decide +kernel
theorem dX4_extent_77 : decode cX4_extent 77 = .ok (.goto (-41), 3) := by decide +kernel
theorem dX4_extent_80 : decode cX4_extent 80 = .ok (.iload_n 3, 1) := by decide +kernel
theorem dX4_extent_81 : decode cX4_extent 81 = .ok (.ifCond .ne 8, 3) := by decide +kernel
theorem dX4_extent_84 : decode cX4_extent 84 = .ok (.iload 4, 2) := by decide +kernel
theorem dX4_extent_86 : decode cX4_extent 86 = .ok (.goto 5, 3) := by decide +kernel
theorem dX4_extent_89 : decode cX4_extent 89 = .ok (.iload 5, 2) := by decide +kernel
theorem dX4_extent_91 : decode cX4_extent 91 = .ok (.ireturn, 1) := by decide +kernel
theorem dX4_inside_0 : decode cX4_inside 0 = .ok (.iload_n 1, 1) := by decide +kernel
theorem dX4_inside_1 : decode cX4_inside 1 = .ok (.invokestatic 45, 3) := by decide +kernel
theorem dX4_inside_4 : decode cX4_inside 4 = .ok (.ifCond .eq 31, 3) := by decide +kernel
theorem dX4_inside_7 : decode cX4_inside 7 = .ok (.iload_n 2, 1) := by decide +kernel
theorem dX4_inside_8 : decode cX4_inside 8 = .ok (.bipush 13, 2) := by decide +kernel
theorem dX4_inside_10 : decode cX4_inside 10 = .ok (.invokestatic 22, 3) := by decide +kernel
theorem dX4_inside_13 : decode cX4_inside 13 = .ok (.ifCond .eq 22, 3) := by decide +kernel
theorem dX4_inside_16 : decode cX4_inside 16 = .ok (.iload_n 3, 1) := by decide +kernel
theorem dX4_inside_17 : decode cX4_inside 17 = .ok (.bipush 13, 2) := by decide +kernel
theorem dX4_inside_19 : decode cX4_inside 19 = .ok (.invokestatic 22, 3) := by decide +kernel
theorem dX4_inside_22 : decode cX4_inside 22 = .ok (.ifCond .eq 13, 3) := by decide +kernel
theorem dX4_inside_25 : decode cX4_inside 25 = .ok (.iload 4, 2) := by decide +kernel
theorem dX4_inside_27 : decode cX4_inside 27 = .ok (.bipush 13, 2) := by decide +kernel
theorem dX4_inside_29 : decode cX4_inside 29 = .ok (.invokestatic 22, 3) := by decide +kernel
theorem dX4_inside_32 : decode cX4_inside 32 = .ok (.ifCond .ne 6, 3) := by decide +kernel
theorem dX4_inside_35 : decode cX4_inside 35 = .ok (.bipush (-9), 2) := by decide +kernel
theorem dX4_inside_37 : decode cX4_inside 37 = .ok (.ireturn, 1) := by decide +kernel
theorem dX4_inside_38 : decode cX4_inside 38 = .ok (.iconst 0, 1) := by decide +kernel
theorem dX4_inside_39 : decode cX4_inside 39 = .ok (.istore 5, 2) := by decide +kernel
theorem dX4_inside_41 : decode cX4_inside 41 = .ok (.iload_n 2, 1) := by decide +kernel
theorem dX4_inside_42 : decode cX4_inside 42 = .ok (.iconst 1, 1) := by decide +kernel
theorem dX4_inside_43 : decode cX4_inside 43 = .ok (.isub, 1) := by decide +kernel
theorem dX4_inside_44 : decode cX4_inside 44 = .ok (.istore 6, 2) := by decide +kernel
theorem dX4_inside_46 : decode cX4_inside 46 = .ok (.iload 6, 2) := by decide +kernel
theorem dX4_inside_48 : decode cX4_inside 48 = .ok (.iload_n 2, 1) := by decide +kernel
theorem dX4_inside_49 : decode cX4_inside 49 = .ok (.if_icmp .gt 69, 3) := by decide +kernel
theorem dX4_inside_52 : decode cX4_inside 52 = .ok (.iload_n 3, 1) := by decide +kernel
theorem dX4_inside_53 : decode cX4_inside 53 = .ok (.iconst 1, 1) := by decide +kernel
theorem dX4_inside_54 : decode cX4_inside 54 = .ok (.isub, 1) := by decide +kernel
theorem dX4_inside_55 : decode cX4_inside 55 = .ok (.istore 7, 2) := by decide +kernel
theorem dX4_inside_57 : decode cX4_inside 57 = .ok (.iload 7, 2) := by decide +kernel
theorem dX4_inside_59 : decode cX4_inside 59 = .ok (.iload_n 3, 1) := by decide +kernel
theorem dX4_inside_60 : decode cX4_inside 60 = .ok (.if_icmp .gt 52, 3) := by decide +kernel
theorem dX4_inside_63 : decode cX4_inside 63 = .ok (.iload 4, 2) := by decide +kernel
theorem dX4_inside_65 : decode cX4_inside 65 = .ok (.iconst 1, 1) := by decide +kernel
theorem dX4_inside_66 : decode cX4_inside 66 = .ok (.isub, 1) := by decide +kernel
theorem dX4_inside_67 : decode cX4_inside 67 = .ok (.istore 8, 2) := by decide +kernel
theorem dX4_inside_69 : decode cX4_inside 69 = .ok (.iload 8, 2) := by decide +kernel
theorem dX4_inside_71 : decode cX4_inside 71 = .ok (.iload 4, 2) := by decide +kernel
theorem dX4_inside_73 : decode cX4_inside 73 = .ok (.if_icmp .gt 33, 3) := by decide +kernel
theorem dX4_inside_76 : decode cX4_inside 76 = .ok (.iload 5, 2) := by decide +kernel
theorem dX4_inside_78 : decode cX4_inside 78 = .ok (.aload_n 0, 1) := by decide +kernel
theorem dX4_inside_79 : decode cX4_inside 79 = .ok (.iload_n 1, 1) := by decide +kernel
theorem dX4_inside_80 : decode cX4_inside 80 = .ok (.iload 6, 2) := by decide +kernel
theorem dX4_inside_82 : decode cX4_inside 82 = .ok (.iload 7, 2) := by decide +kernel
theorem dX4_inside_84 : decode cX4_inside 84 = .ok (.iload 8, 2) := by decide +kernel
theorem dX4_inside_86 : decode cX4_inside 86 = .ok (.invokevirtual 26, 3) := by decide +kernel
theorem dX4_inside_89 : decode cX4_inside 89 = .ok (.ifCond .eq 7, 3) := by decide +kernel
theorem dX4_inside_92 : decode cX4_inside 92 = .ok (.iconst 1, 1) := by decide +kernel
theorem dX4_inside_93 : decode cX4_inside 93 = .ok (.goto 4, 3) := by decide +kernel
theorem dX4_inside_96 : decode cX4_inside 96 = .ok (.iconst 0, 1) := by decide +kernel
theorem dX4_inside_97 : decode cX4_inside 97 = .ok (.iadd, 1) := by decide +kernel
theorem dX4_inside_98 : decode cX4_inside 98 = .ok (.istore 5, 2) := by decide +kernel
theorem dX4_inside_100 : decode cX4_inside 100 = .ok (.iinc 8 1, 3) := by decide +kernel
theorem dX4_inside_103 : decode cX4_inside 103 = .ok (.goto (-34), 3) := by decide +kernel
theorem dX4_inside_106 : decode cX4_inside 106 = .ok (.iinc 7 1, 3) := by decide +kernel
theorem dX4_inside_109 : decode cX4_inside 109 = .ok (.goto (-52), 3) := by decide +kernel
theorem dX4_inside_112 : decode cX4_inside 112 = .ok (.iinc 6 1, 3) := by decide +kernel
theorem dX4_inside_115 : decode cX4_inside 115 = .ok (.goto (-69), 3) := by decide +kernel
theorem dX4_inside_118 : decode cX4_inside 118 = .ok (.iload 5, 2) := by decide +kernel
theorem dX4_inside_120 : decode cX4_inside 120 = .ok (.bipush 8, 2) := by decide +kernel
theorem dX4_inside_122 : decode cX4_inside 122 = .ok (.if_icmp .ne 7, 3) := by decide +kernel
theorem dX4_inside_125 : decode cX4_inside 125 = .ok (.iconst 1, 1) := by decide +kernel
theorem dX4_inside_126 : decode cX4_inside 126 = .ok (.goto 13, 3) := by decide +kernel
theorem dX4_inside_129 : decode cX4_inside 129 = .ok (.iload 5, 2) := by decide +kernel
theorem dX4_inside_131 : decode cX4_inside 131 = .ok (.ifCond .le 7, 3) := by decide +kernel
theorem dX4_inside_134 : decode cX4_inside 134 = .ok (.iconst 0, 1) := by decide +kernel
theorem dX4_inside_135 : decode cX4_inside 135 = .ok (.goto 4, 3) := by decide +kernel
theorem dX4_inside_138 : decode cX4_inside 138 = .ok (.iconst (-1), 1) := by decide +kernel
theorem dX4_inside_139 : decode cX4_inside 139 = .ok (.ireturn, 1) := by decide +kernel
theorem dX4_section_0 : decode cX4_section 0 = .ok (.iload_n 1, 1) := by decide +kernel
theorem dX4_section_1 : decode cX4_section 1 = .ok (.invokestatic 45, 3) := by decide +kernel
theorem dX4_section_4 : decode cX4_section 4 = .ok (.ifCond .eq 29, 3) := by decide +kernel
theorem dX4_section_7 : decode cX4_section 7 = .ok (.iload_n 2, 1) := by decide +kernel
theorem dX4_section_8 : decode cX4_section 8 = .ok (.invokestatic 59, 3) := by decide +kernel
theorem dX4_section_11 : decode cX4_section 11 = .ok (.ifCond .eq 22, 3) := by decide +kernel
theorem dX4_section_14 : decode cX4_section 14 = .ok (.iload_n 3, 1) := by decide +kernel
theorem dX4_section_15 : decode cX4_section 15 = .ok (.bipush 12, 2) := by decide +kernel
theorem dX4_section_17 : decode cX4_section 17 = .ok (.invokestatic 22, 3) := by decide +kernel
theorem dX4_section_20 : decode cX4_section 20 = .ok (.ifCond .eq 13, 3) := by decide +kernel
theorem dX4_section_23 : decode cX4_section 23 = .ok (.aload_n 0, 1) := by decide +kernel
theorem dX4_section_24 : decode cX4_section 24 = .ok (.iload_n 1, 1) := by decide +kernel
theorem dX4_section_25 : decode cX4_section 25 = .ok (.iload_n 2, 1) := by decide +kernel
theorem dX4_section_26 : decode cX4_section 26 = .ok (.iload_n 3, 1) := by decide +kernel
theorem dX4_section_27 : decode cX4_section 27 = .ok (.invokevirtual 95, 3) := by decide +kernel
theorem dX4_section_30 : decode cX4_section 30 = .ok (.goto 4, 3) := by decide +kernel
theorem dX4_section_33 : decode cX4_section 33 = .ok (.iconst (-1), 1) := by decide +kernel
theorem dX4_section_34 : decode cX4_section 34 = .ok (.ireturn, 1) := by decide +kernel
theorem dX4_same_0 : decode cX4_same 0 = .ok (.iload_n 1, 1) := by decide +kernel
theorem dX4_same_1 : decode cX4_same 1 = .ok (.invokestatic 45, 3) := by decide +kernel
theorem dX4_same_4 : decode cX4_same 4 = .ok (.ifCond .eq 10, 3) := by decide +kernel
theorem dX4_same_7 : decode cX4_same 7 = .ok (.iload_n 2, 1) := by decide +kernel
theorem dX4_same_8 : decode cX4_same 8 = .ok (.invokestatic 45, 3) := by decide +kernel
theorem dX4_same_11 : decode cX4_same 11 = .ok (.ifCond .ne 5, 3) := by decide +kernel
theorem dX4_same_14 : decode cX4_same 14 = .ok (.iconst 0, 1) := by decide +kernel
theorem dX4_same_15 : decode cX4_same 15 = .ok (.ireturn, 1) := by decide +kernel
theorem dX4_same_16 : decode cX4_same 16 = .ok (.iconst 1, 1) := by decide +kernel
theorem dX4_same_17 : decode cX4_same 17 = .ok (.istore_n 3, 1) := by decide +kernel
theorem dX4_same_18 : decode cX4_same 18 = .ok (.iconst 0, 1) := by decide +kernel
theorem dX4_same_19 : decode cX4_same 19 = .ok (.istore 4, 2) := by decide +kernel
theorem dX4_same_21 : decode cX4_same 21 = .ok (.iload 4, 2) := by decide +kernel
theorem dX4_same_23 : decode cX4_same 23 = .ok (.sipush 144, 3) := by decide +kernel
theorem dX4_same_26 : decode cX4_same 26 = .ok (.if_icmp .ge 48, 3) := by decide +kernel
theorem dX4_same_29 : decode cX4_same 29 = .ok (.iload_n 3, 1) := by decide +kernel
theorem dX4_same_30 : decode cX4_same 30 = .ok (.ifCond .eq 36, 3) := by decide +kernel
theorem dX4_same_33 : decode cX4_same 33 = .ok (.aload_n 0, 1) := by decide +kernel
theorem dX4_same_34 : decode cX4_same 34 = .ok (.getfield 7, 3) := by decide +kernel
theorem dX4_same_37 : decode cX4_same 37 = .ok (.sipush 144, 3) := by decide +kernel
theorem dX4_same_40 : decode cX4_same 40 = .ok (.iload_n 1, 1) := by decide +kernel
theorem dX4_same_41 : decode cX4_same 41 = .ok (.imul, 1) := by decide +kernel
theorem dX4_same_42 : decode cX4_same 42 = .ok (.iload 4, 2) := by decide +kernel
theorem dX4_same_44 : decode cX4_same 44 = .ok (.iadd, 1) := by decide +kernel
theorem dX4_same_45 : decode cX4_same 45 = .ok (.iaload, 1) := by decide +kernel
theorem dX4_same_46 : decode cX4_same 46 = .ok (.aload_n 0, 1) := by decide +kernel
theorem dX4_same_47 : decode cX4_same 47 = .ok (.getfield 7, 3) := by decide +kernel
theorem dX4_same_50 : decode cX4_same 50 = .ok (.sipush 144, 3) := by decide +kernel
theorem dX4_same_53 : decode cX4_same 53 = .ok (.iload_n 2, 1) := by decide +kernel
theorem dX4_same_54 : decode cX4_same 54 = .ok (.imul, 1) := by decide +kernel
theorem dX4_same_55 : decode cX4_same 55 = .ok (.iload 4, 2) := by decide +kernel
theorem dX4_same_57 : decode cX4_same 57 = .ok (.iadd, 1) := by decide +kernel
theorem dX4_same_58 : decode cX4_same 58 = .ok (.iaload, 1) := by decide +kernel
theorem dX4_same_59 : decode cX4_same 59 = .ok (.if_icmp .ne 7, 3) := by decide +kernel
theorem dX4_same_62 : decode cX4_same 62 = .ok (.iconst 1, 1) := by decide +kernel
theorem dX4_same_63 : decode cX4_same 63 = .ok (.goto 4, 3) := by decide +kernel
theorem dX4_same_66 : decode cX4_same 66 = .ok (.iconst 0, 1) := by decide +kernel
theorem dX4_same_67 : decode cX4_same 67 = .ok (.istore_n 3, 1) := by decide +kernel
theorem dX4_same_68 : decode cX4_same 68 = .ok (.iinc 4 1, 3) := by decide +kernel
theorem dX4_same_71 : decode cX4_same 71 = .ok (.goto (-50), 3) := by decide +kernel
theorem dX4_same_74 : decode cX4_same 74 = .ok (.iload_n 3, 1) := by decide +kernel
theorem dX4_same_75 : decode cX4_same 75 = .ok (.ireturn, 1) := by decide +kernel
theorem dX4_depthOf_0 : decode cX4_depthOf 0 = .ok (.iconst 0, 1) := by decide +kernel
theorem dX4_depthOf_1 : decode cX4_depthOf 1 = .ok (.istore 6, 2) := by decide +kernel
theorem dX4_depthOf_3 : decode cX4_depthOf 3 = .ok (.iload 6, 2) := by decide +kernel
theorem dX4_depthOf_5 : decode cX4_depthOf 5 = .ok (.bipush 12, 2) := by decide +kernel
theorem dX4_depthOf_7 : decode cX4_depthOf 7 = .ok (.if_icmp .ge 36, 3) := by decide +kernel
theorem dX4_depthOf_10 : decode cX4_depthOf 10 = .ok (.aload_n 0, 1) := by decide +kernel
theorem dX4_depthOf_11 : decode cX4_depthOf 11 = .ok (.iload_n 1, 1) := by decide +kernel
theorem dX4_depthOf_12 : decode cX4_depthOf 12 = .ok (.iload_n 2, 1) := by decide +kernel
theorem dX4_depthOf_13 : decode cX4_depthOf 13 = .ok (.iload_n 3, 1) := by decide +kernel
theorem dX4_depthOf_14 : decode cX4_depthOf 14 = .ok (.ifCond .eq 11, 3) := by decide +kernel
theorem dX4_depthOf_17 : decode cX4_depthOf 17 = .ok (.bipush 11, 2) := by decide +kernel
theorem dX4_depthOf_19 : decode cX4_depthOf 19 = .ok (.iload 6, 2) := by decide +kernel
theorem dX4_depthOf_21 : decode cX4_depthOf 21 = .ok (.isub, 1) := by decide +kernel
theorem dX4_depthOf_22 : decode cX4_depthOf 22 = .ok (.goto 5, 3) := by decide +kernel
theorem dX4_depthOf_25 : decode cX4_depthOf 25 = .ok (.iload 6, 2) := by decide +kernel
theorem dX4_depthOf_27 : decode cX4_depthOf 27 = .ok (.iload 4, 2) := by decide +kernel
theorem dX4_depthOf_29 : decode cX4_depthOf 29 = .ok (.iload 5, 2) := by decide +kernel
theorem dX4_depthOf_31 : decode cX4_depthOf 31 = .ok (.invokevirtual 66, 3) := by decide +kernel
theorem dX4_depthOf_34 : decode cX4_depthOf 34 = .ok (.ifCond .ne 9, 3) := by decide +kernel
theorem dX4_depthOf_37 : decode cX4_depthOf 37 = .ok (.iinc 6 1, 3) := by decide +kernel
theorem dX4_depthOf_40 : decode cX4_depthOf 40 = .ok (.goto (-37), 3) := by decide +kernel
theorem dX4_depthOf_43 : decode cX4_depthOf 43 = .ok (.iload 6, 2) := by decide +kernel
theorem dX4_depthOf_45 : decode cX4_depthOf 45 = .ok (.ireturn, 1) := by decide +kernel
theorem dX4_depth_0 : decode cX4_depth 0 = .ok (.iload_n 1, 1) := by decide +kernel
theorem dX4_depth_1 : decode cX4_depth 1 = .ok (.invokestatic 45, 3) := by decide +kernel
theorem dX4_depth_4 : decode cX4_depth 4 = .ok (.ifCond .eq 44, 3) := by decide +kernel
theorem dX4_depth_7 : decode cX4_depth 7 = .ok (.iload_n 2, 1) := by decide +kernel
theorem dX4_depth_8 : decode cX4_depth 8 = .ok (.invokestatic 59, 3) := by decide +kernel
theorem dX4_depth_11 : decode cX4_depth 11 = .ok (.ifCond .eq 37, 3) := by decide +kernel
theorem dX4_depth_14 : decode cX4_depth 14 = .ok (.iload 4, 2) := by decide +kernel
theorem dX4_depth_16 : decode cX4_depth 16 = .ok (.bipush 12, 2) := by decide +kernel
theorem dX4_depth_18 : decode cX4_depth 18 = .ok (.invokestatic 22, 3) := by decide +kernel
theorem dX4_depth_21 : decode cX4_depth 21 = .ok (.ifCond .eq 27, 3) := by decide +kernel
theorem dX4_depth_24 : decode cX4_depth 24 = .ok (.iload 5, 2) := by decide +kernel
theorem dX4_depth_26 : decode cX4_depth 26 = .ok (.bipush 12, 2) := by decide +kernel
theorem dX4_depth_28 : decode cX4_depth 28 = .ok (.invokestatic 22, 3) := by decide +kernel
theorem dX4_depth_31 : decode cX4_depth 31 = .ok (.ifCond .eq 17, 3) := by decide +kernel
theorem dX4_depth_34 : decode cX4_depth 34 = .ok (.aload_n 0, 1) := by decide +kernel
theorem dX4_depth_35 : decode cX4_depth 35 = .ok (.iload_n 1, 1) := by decide +kernel
theorem dX4_depth_36 : decode cX4_depth 36 = .ok (.iload_n 2, 1) := by decide +kernel
theorem dX4_depth_37 : decode cX4_depth 37 = .ok (.iload_n 3, 1) := by decide +kernel
theorem dX4_depth_38 : decode cX4_depth 38 = .ok (.iload 4, 2) := by decide +kernel
theorem dX4_depth_40 : decode cX4_depth 40 = .ok (.iload 5, 2) := by decide +kernel
theorem dX4_depth_42 : decode cX4_depth 42 = .ok (.invokevirtual 99, 3) := by decide +kernel
theorem dX4_depth_45 : decode cX4_depth 45 = .ok (.goto 4, 3) := by decide +kernel
theorem dX4_depth_48 : decode cX4_depth 48 = .ok (.iconst (-1), 1) := by decide +kernel
theorem dX4_depth_49 : decode cX4_depth 49 = .ok (.ireturn, 1) := by decide +kernel
theorem dX4_isEdgeAt_0 : decode cX4_isEdgeAt 0 = .ok (.iload_n 2, 1) := by decide +kernel
theorem dX4_isEdgeAt_1 : decode cX4_isEdgeAt 1 = .ok (.ifCond .ne 34, 3) := by decide +kernel
theorem dX4_isEdgeAt_4 : decode cX4_isEdgeAt 4 = .ok (.iload 5, 2) := by decide +kernel
theorem dX4_isEdgeAt_6 : decode cX4_isEdgeAt 6 = .ok (.ifCond .ne 17, 3) := by decide +kernel
theorem dX4_isEdgeAt_9 : decode cX4_isEdgeAt 9 = .ok (.aload_n 0, 1) := by decide +kernel
theorem dX4_isEdgeAt_10 : decode cX4_isEdgeAt 10 = .ok (.iload_n 1, 1) := by decide +kernel
theorem dX4_isEdgeAt_11 : decode cX4_isEdgeAt 11 = .ok (.iconst 2, 1) := by decide +kernel
theorem dX4_isEdgeAt_12 : decode cX4_isEdgeAt 12 = .ok (.iload 4, 2) := by decide +kernel
theorem dX4_isEdgeAt_14 : decode cX4_isEdgeAt 14 = .ok (.iload 6, 2) := by decide +kernel
theorem dX4_isEdgeAt_16 : decode cX4_isEdgeAt 16 = .ok (.iload_n 3, 1) := by decide +kernel
theorem dX4_isEdgeAt_17 : decode cX4_isEdgeAt 17 = .ok (.invokevirtual 70, 3) := by decide +kernel
theorem dX4_isEdgeAt_20 : decode cX4_isEdgeAt 20 = .ok (.goto 14, 3) := by decide +kernel
theorem dX4_isEdgeAt_23 : decode cX4_isEdgeAt 23 = .ok (.aload_n 0, 1) := by decide +kernel
theorem dX4_isEdgeAt_24 : decode cX4_isEdgeAt 24 = .ok (.iload_n 1, 1) := by decide +kernel
theorem dX4_isEdgeAt_25 : decode cX4_isEdgeAt 25 = .ok (.iconst 1, 1) := by decide +kernel
theorem dX4_isEdgeAt_26 : decode cX4_isEdgeAt 26 = .ok (.iload_n 3, 1) := by decide +kernel
theorem dX4_isEdgeAt_27 : decode cX4_isEdgeAt 27 = .ok (.iload 6, 2) := by decide +kernel
theorem dX4_isEdgeAt_29 : decode cX4_isEdgeAt 29 = .ok (.iload 4, 2) := by decide +kernel
theorem dX4_isEdgeAt_31 : decode cX4_isEdgeAt 31 = .ok (.invokevirtual 70, 3) := by decide +kernel
theorem dX4_isEdgeAt_34 : decode cX4_isEdgeAt 34 = .ok (.ireturn, 1) := by decide +kernel
theorem dX4_isEdgeAt_35 : decode cX4_isEdgeAt 35 = .ok (.iload_n 2, 1) := by decide +kernel
theorem dX4_isEdgeAt_36 : decode cX4_isEdgeAt 36 = .ok (.iconst 1, 1) := by decide +kernel
theorem dX4_isEdgeAt_37 : decode cX4_isEdgeAt 37 = .ok (.if_icmp .ne 34, 3) := by decide +kernel
theorem dX4_isEdgeAt_40 : decode cX4_isEdgeAt 40 = .ok (.iload 5, 2) := by decide +kernel
theorem dX4_isEdgeAt_42 : decode cX4_isEdgeAt 42 = .ok (.ifCond .ne 17, 3) := by decide +kernel
theorem dX4_isEdgeAt_45 : decode cX4_isEdgeAt 45 = .ok (.aload_n 0, 1) := by decide +kernel
theorem dX4_isEdgeAt_46 : decode cX4_isEdgeAt 46 = .ok (.iload_n 1, 1) := by decide +kernel
theorem dX4_isEdgeAt_47 : decode cX4_isEdgeAt 47 = .ok (.iconst 2, 1) := by decide +kernel
theorem dX4_isEdgeAt_48 : decode cX4_isEdgeAt 48 = .ok (.iload 4, 2) := by decide +kernel
theorem dX4_isEdgeAt_50 : decode cX4_isEdgeAt 50 = .ok (.iload_n 3, 1) := by decide +kernel
theorem dX4_isEdgeAt_51 : decode cX4_isEdgeAt 51 = .ok (.iload 6, 2) := by decide +kernel
theorem dX4_isEdgeAt_53 : decode cX4_isEdgeAt 53 = .ok (.invokevirtual 70, 3) := by decide +kernel
theorem dX4_isEdgeAt_56 : decode cX4_isEdgeAt 56 = .ok (.goto 14, 3) := by decide +kernel
theorem dX4_isEdgeAt_59 : decode cX4_isEdgeAt 59 = .ok (.aload_n 0, 1) := by decide +kernel
theorem dX4_isEdgeAt_60 : decode cX4_isEdgeAt 60 = .ok (.iload_n 1, 1) := by decide +kernel
theorem dX4_isEdgeAt_61 : decode cX4_isEdgeAt 61 = .ok (.iconst 0, 1) := by decide +kernel
theorem dX4_isEdgeAt_62 : decode cX4_isEdgeAt 62 = .ok (.iload_n 3, 1) := by decide +kernel
theorem dX4_isEdgeAt_63 : decode cX4_isEdgeAt 63 = .ok (.iload 6, 2) := by decide +kernel
theorem dX4_isEdgeAt_65 : decode cX4_isEdgeAt 65 = .ok (.iload 4, 2) := by decide +kernel
theorem dX4_isEdgeAt_67 : decode cX4_isEdgeAt 67 = .ok (.invokevirtual 70, 3) := by decide +kernel
theorem dX4_isEdgeAt_70 : decode cX4_isEdgeAt 70 = .ok (.ireturn, 1) := by decide +kernel
theorem dX4_isEdgeAt_71 : decode cX4_isEdgeAt 71 = .ok (.iload 5, 2) := by decide +kernel
theorem dX4_isEdgeAt_73 : decode cX4_isEdgeAt 73 = .ok (.ifCond .ne 17, 3) := by decide +kernel
theorem dX4_isEdgeAt_76 : decode cX4_isEdgeAt 76 = .ok (.aload_n 0, 1) := by decide +kernel
theorem dX4_isEdgeAt_77 : decode cX4_isEdgeAt 77 = .ok (.iload_n 1, 1) := by decide +kernel
theorem dX4_isEdgeAt_78 : decode cX4_isEdgeAt 78 = .ok (.iconst 1, 1) := by decide +kernel
theorem dX4_isEdgeAt_79 : decode cX4_isEdgeAt 79 = .ok (.iload 4, 2) := by decide +kernel
theorem dX4_isEdgeAt_81 : decode cX4_isEdgeAt 81 = .ok (.iload_n 3, 1) := by decide +kernel
theorem dX4_isEdgeAt_82 : decode cX4_isEdgeAt 82 = .ok (.iload 6, 2) := by decide +kernel
theorem dX4_isEdgeAt_84 : decode cX4_isEdgeAt 84 = .ok (.invokevirtual 70, 3) := by decide +kernel
theorem dX4_isEdgeAt_87 : decode cX4_isEdgeAt 87 = .ok (.goto 14, 3) := by decide +kernel
theorem dX4_isEdgeAt_90 : decode cX4_isEdgeAt 90 = .ok (.aload_n 0, 1) := by decide +kernel
theorem dX4_isEdgeAt_91 : decode cX4_isEdgeAt 91 = .ok (.iload_n 1, 1) := by decide +kernel
theorem dX4_isEdgeAt_92 : decode cX4_isEdgeAt 92 = .ok (.iconst 0, 1) := by decide +kernel
theorem dX4_isEdgeAt_93 : decode cX4_isEdgeAt 93 = .ok (.iload_n 3, 1) := by decide +kernel
theorem dX4_isEdgeAt_94 : decode cX4_isEdgeAt 94 = .ok (.iload 4, 2) := by decide +kernel
theorem dX4_isEdgeAt_96 : decode cX4_isEdgeAt 96 = .ok (.iload 6, 2) := by decide +kernel
theorem dX4_isEdgeAt_98 : decode cX4_isEdgeAt 98 = .ok (.invokevirtual 70, 3) := by decide +kernel
theorem dX4_isEdgeAt_101 : decode cX4_isEdgeAt 101 = .ok (.ireturn, 1) := by decide +kernel
theorem dX4_strokeOf_0 : decode cX4_strokeOf 0 = .ok (.iload 6, 2) := by decide +kernel
theorem dX4_strokeOf_2 : decode cX4_strokeOf 2 = .ok (.ifCond .ne 19, 3) := by decide +kernel
theorem dX4_strokeOf_5 : decode cX4_strokeOf 5 = .ok (.aload_n 0, 1) := by decide +kernel
theorem dX4_strokeOf_6 : decode cX4_strokeOf 6 = .ok (.iload_n 1, 1) := by decide +kernel
theorem dX4_strokeOf_7 : decode cX4_strokeOf 7 = .ok (.iload_n 2, 1) := by decide +kernel
theorem dX4_strokeOf_8 : decode cX4_strokeOf 8 = .ok (.iload_n 3, 1) := by decide +kernel
theorem dX4_strokeOf_9 : decode cX4_strokeOf 9 = .ok (.iload 4, 2) := by decide +kernel
theorem dX4_strokeOf_11 : decode cX4_strokeOf 11 = .ok (.iconst 1, 1) := by decide +kernel
theorem dX4_strokeOf_12 : decode cX4_strokeOf 12 = .ok (.isub, 1) := by decide +kernel
theorem dX4_strokeOf_13 : decode cX4_strokeOf 13 = .ok (.iload 5, 2) := by decide +kernel
theorem dX4_strokeOf_15 : decode cX4_strokeOf 15 = .ok (.invokevirtual 99, 3) := by decide +kernel
theorem dX4_strokeOf_18 : decode cX4_strokeOf 18 = .ok (.goto 16, 3) := by decide +kernel
theorem dX4_strokeOf_21 : decode cX4_strokeOf 21 = .ok (.aload_n 0, 1) := by decide +kernel
theorem dX4_strokeOf_22 : decode cX4_strokeOf 22 = .ok (.iload_n 1, 1) := by decide +kernel
theorem dX4_strokeOf_23 : decode cX4_strokeOf 23 = .ok (.iload_n 2, 1) := by decide +kernel
theorem dX4_strokeOf_24 : decode cX4_strokeOf 24 = .ok (.iload_n 3, 1) := by decide +kernel
theorem dX4_strokeOf_25 : decode cX4_strokeOf 25 = .ok (.iload 4, 2) := by decide +kernel
theorem dX4_strokeOf_27 : decode cX4_strokeOf 27 = .ok (.iload 5, 2) := by decide +kernel
theorem dX4_strokeOf_29 : decode cX4_strokeOf 29 = .ok (.iconst 1, 1) := by decide +kernel
theorem dX4_strokeOf_30 : decode cX4_strokeOf 30 = .ok (.isub, 1) := by decide +kernel
theorem dX4_strokeOf_31 : decode cX4_strokeOf 31 = .ok (.invokevirtual 99, 3) := by decide +kernel
theorem dX4_strokeOf_34 : decode cX4_strokeOf 34 = .ok (.istore 7, 2) := by decide +kernel
theorem dX4_strokeOf_36 : decode cX4_strokeOf 36 = .ok (.iload 7, 2) := by decide +kernel
theorem dX4_strokeOf_38 : decode cX4_strokeOf 38 = .ok (.aload_n 0, 1) := by decide +kernel
theorem dX4_strokeOf_39 : decode cX4_strokeOf 39 = .ok (.iload_n 1, 1) := by decide +kernel
theorem dX4_strokeOf_40 : decode cX4_strokeOf 40 = .ok (.iload_n 2, 1) := by decide +kernel
theorem dX4_strokeOf_41 : decode cX4_strokeOf 41 = .ok (.iload_n 3, 1) := by decide +kernel
theorem dX4_strokeOf_42 : decode cX4_strokeOf 42 = .ok (.iload 4, 2) := by decide +kernel
theorem dX4_strokeOf_44 : decode cX4_strokeOf 44 = .ok (.iload 5, 2) := by decide +kernel
theorem dX4_strokeOf_46 : decode cX4_strokeOf 46 = .ok (.invokevirtual 99, 3) := by decide +kernel
theorem dX4_strokeOf_49 : decode cX4_strokeOf 49 = .ok (.if_icmp .eq 5, 3) := by decide +kernel
theorem dX4_strokeOf_52 : decode cX4_strokeOf 52 = .ok (.iconst 2, 1) := by decide +kernel
theorem dX4_strokeOf_53 : decode cX4_strokeOf 53 = .ok (.ireturn, 1) := by decide +kernel
theorem dX4_strokeOf_54 : decode cX4_strokeOf 54 = .ok (.iconst 0, 1) := by decide +kernel
theorem dX4_strokeOf_55 : decode cX4_strokeOf 55 = .ok (.istore 8, 2) := by decide +kernel
theorem dX4_strokeOf_57 : decode cX4_strokeOf 57 = .ok (.iconst 0, 1) := by decide +kernel
theorem dX4_strokeOf_58 : decode cX4_strokeOf 58 = .ok (.istore 9, 2) := by decide +kernel
theorem dX4_strokeOf_60 : decode cX4_strokeOf 60 = .ok (.iload 9, 2) := by decide +kernel
theorem dX4_strokeOf_62 : decode cX4_strokeOf 62 = .ok (.bipush 12, 2) := by decide +kernel
theorem dX4_strokeOf_64 : decode cX4_strokeOf 64 = .ok (.if_icmp .gt 34, 3) := by decide +kernel
theorem dX4_strokeOf_67 : decode cX4_strokeOf 67 = .ok (.aload_n 0, 1) := by decide +kernel
theorem dX4_strokeOf_68 : decode cX4_strokeOf 68 = .ok (.iload_n 1, 1) := by decide +kernel
theorem dX4_strokeOf_69 : decode cX4_strokeOf 69 = .ok (.iload_n 2, 1) := by decide +kernel
theorem dX4_strokeOf_70 : decode cX4_strokeOf 70 = .ok (.iload 4, 2) := by decide +kernel
theorem dX4_strokeOf_72 : decode cX4_strokeOf 72 = .ok (.iload 5, 2) := by decide +kernel
theorem dX4_strokeOf_74 : decode cX4_strokeOf 74 = .ok (.iload 6, 2) := by decide +kernel
theorem dX4_strokeOf_76 : decode cX4_strokeOf 76 = .ok (.iload 9, 2) := by decide +kernel
theorem dX4_strokeOf_78 : decode cX4_strokeOf 78 = .ok (.invokevirtual 103, 3) := by decide +kernel
theorem dX4_strokeOf_81 : decode cX4_strokeOf 81 = .ok (.ifCond .eq 7, 3) := by decide +kernel
theorem dX4_strokeOf_84 : decode cX4_strokeOf 84 = .ok (.iconst 1, 1) := by decide +kernel
theorem dX4_strokeOf_85 : decode cX4_strokeOf 85 = .ok (.goto 5, 3) := by decide +kernel
theorem dX4_strokeOf_88 : decode cX4_strokeOf 88 = .ok (.iload 8, 2) := by decide +kernel
theorem dX4_strokeOf_90 : decode cX4_strokeOf 90 = .ok (.istore 8, 2) := by decide +kernel
theorem dX4_strokeOf_92 : decode cX4_strokeOf 92 = .ok (.iinc 9 1, 3) := by decide +kernel
theorem dX4_strokeOf_95 : decode cX4_strokeOf 95 = .ok (.goto (-35), 3) := by decide +kernel
theorem dX4_strokeOf_98 : decode cX4_strokeOf 98 = .ok (.iload 8, 2) := by decide +kernel
theorem dX4_strokeOf_100 : decode cX4_strokeOf 100 = .ok (.ireturn, 1) := by decide +kernel
theorem dX4_stroke_0 : decode cX4_stroke 0 = .ok (.iload_n 1, 1) := by decide +kernel
theorem dX4_stroke_1 : decode cX4_stroke 1 = .ok (.invokestatic 45, 3) := by decide +kernel
theorem dX4_stroke_4 : decode cX4_stroke 4 = .ok (.ifCond .eq 68, 3) := by decide +kernel
theorem dX4_stroke_7 : decode cX4_stroke 7 = .ok (.iload_n 2, 1) := by decide +kernel
theorem dX4_stroke_8 : decode cX4_stroke 8 = .ok (.invokestatic 59, 3) := by decide +kernel
theorem dX4_stroke_11 : decode cX4_stroke 11 = .ok (.ifCond .eq 61, 3) := by decide +kernel
theorem dX4_stroke_14 : decode cX4_stroke 14 = .ok (.iload 6, 2) := by decide +kernel
theorem dX4_stroke_16 : decode cX4_stroke 16 = .ok (.ifCond .ne 26, 3) := by decide +kernel
theorem dX4_stroke_19 : decode cX4_stroke 19 = .ok (.iload 4, 2) := by decide +kernel
theorem dX4_stroke_21 : decode cX4_stroke 21 = .ok (.bipush 13, 2) := by decide +kernel
theorem dX4_stroke_23 : decode cX4_stroke 23 = .ok (.invokestatic 22, 3) := by decide +kernel
theorem dX4_stroke_26 : decode cX4_stroke 26 = .ok (.ifCond .eq 46, 3) := by decide +kernel
theorem dX4_stroke_29 : decode cX4_stroke 29 = .ok (.iload 5, 2) := by decide +kernel
theorem dX4_stroke_31 : decode cX4_stroke 31 = .ok (.bipush 12, 2) := by decide +kernel
theorem dX4_stroke_33 : decode cX4_stroke 33 = .ok (.invokestatic 22, 3) := by decide +kernel
theorem dX4_stroke_36 : decode cX4_stroke 36 = .ok (.ifCond .eq 36, 3) := by decide +kernel
theorem dX4_stroke_39 : decode cX4_stroke 39 = .ok (.goto 29, 3) := by decide +kernel
theorem dX4_stroke_42 : decode cX4_stroke 42 = .ok (.iload 6, 2) := by decide +kernel
theorem dX4_stroke_44 : decode cX4_stroke 44 = .ok (.iconst 1, 1) := by decide +kernel
theorem dX4_stroke_45 : decode cX4_stroke 45 = .ok (.if_icmp .ne 27, 3) := by decide +kernel
theorem dX4_stroke_48 : decode cX4_stroke 48 = .ok (.iload 4, 2) := by decide +kernel
theorem dX4_stroke_50 : decode cX4_stroke 50 = .ok (.bipush 12, 2) := by decide +kernel
theorem dX4_stroke_52 : decode cX4_stroke 52 = .ok (.invokestatic 22, 3) := by decide +kernel
theorem dX4_stroke_55 : decode cX4_stroke 55 = .ok (.ifCond .eq 17, 3) := by decide +kernel
theorem dX4_stroke_58 : decode cX4_stroke 58 = .ok (.iload 5, 2) := by decide +kernel
theorem dX4_stroke_60 : decode cX4_stroke 60 = .ok (.bipush 13, 2) := by decide +kernel
theorem dX4_stroke_62 : decode cX4_stroke 62 = .ok (.invokestatic 22, 3) := by decide +kernel
theorem dX4_stroke_65 : decode cX4_stroke 65 = .ok (.ifCond .eq 7, 3) := by decide +kernel
theorem dX4_stroke_68 : decode cX4_stroke 68 = .ok (.iconst 1, 1) := by decide +kernel
theorem dX4_stroke_69 : decode cX4_stroke 69 = .ok (.goto 4, 3) := by decide +kernel
theorem dX4_stroke_72 : decode cX4_stroke 72 = .ok (.iconst 0, 1) := by decide +kernel
theorem dX4_stroke_73 : decode cX4_stroke 73 = .ok (.istore 7, 2) := by decide +kernel
theorem dX4_stroke_75 : decode cX4_stroke 75 = .ok (.iload 7, 2) := by decide +kernel
theorem dX4_stroke_77 : decode cX4_stroke 77 = .ok (.ifCond .eq 19, 3) := by decide +kernel
theorem dX4_stroke_80 : decode cX4_stroke 80 = .ok (.aload_n 0, 1) := by decide +kernel
theorem dX4_stroke_81 : decode cX4_stroke 81 = .ok (.iload_n 1, 1) := by decide +kernel
theorem dX4_stroke_82 : decode cX4_stroke 82 = .ok (.iload_n 2, 1) := by decide +kernel
theorem dX4_stroke_83 : decode cX4_stroke 83 = .ok (.iload_n 3, 1) := by decide +kernel
theorem dX4_stroke_84 : decode cX4_stroke 84 = .ok (.iload 4, 2) := by decide +kernel
theorem dX4_stroke_86 : decode cX4_stroke 86 = .ok (.iload 5, 2) := by decide +kernel
theorem dX4_stroke_88 : decode cX4_stroke 88 = .ok (.iload 6, 2) := by decide +kernel
theorem dX4_stroke_90 : decode cX4_stroke 90 = .ok (.invokevirtual 107, 3) := by decide +kernel
theorem dX4_stroke_93 : decode cX4_stroke 93 = .ok (.goto 4, 3) := by decide +kernel
theorem dX4_stroke_96 : decode cX4_stroke 96 = .ok (.iconst (-1), 1) := by decide +kernel
theorem dX4_stroke_97 : decode cX4_stroke 97 = .ok (.ireturn, 1) := by decide +kernel
theorem dX4_strokes_0 : decode cX4_strokes 0 = .ok (.iload_n 1, 1) := by decide +kernel
theorem dX4_strokes_1 : decode cX4_strokes 1 = .ok (.invokestatic 45, 3) := by decide +kernel
theorem dX4_strokes_4 : decode cX4_strokes 4 = .ok (.ifCond .eq 22, 3) := by decide +kernel
theorem dX4_strokes_7 : decode cX4_strokes 7 = .ok (.iload_n 2, 1) := by decide +kernel
theorem dX4_strokes_8 : decode cX4_strokes 8 = .ok (.invokestatic 59, 3) := by decide +kernel
theorem dX4_strokes_11 : decode cX4_strokes 11 = .ok (.ifCond .eq 15, 3) := by decide +kernel
theorem dX4_strokes_14 : decode cX4_strokes 14 = .ok (.iload 4, 2) := by decide +kernel
theorem dX4_strokes_16 : decode cX4_strokes 16 = .ok (.iconst 1, 1) := by decide +kernel
theorem dX4_strokes_17 : decode cX4_strokes 17 = .ok (.if_icmp .lt 9, 3) := by decide +kernel
theorem dX4_strokes_20 : decode cX4_strokes 20 = .ok (.iload 4, 2) := by decide +kernel
theorem dX4_strokes_22 : decode cX4_strokes 22 = .ok (.iconst 2, 1) := by decide +kernel
theorem dX4_strokes_23 : decode cX4_strokes 23 = .ok (.if_icmp .le 5, 3) := by decide +kernel
theorem dX4_strokes_26 : decode cX4_strokes 26 = .ok (.iconst (-1), 1) := by decide +kernel
theorem dX4_strokes_27 : decode cX4_strokes 27 = .ok (.ireturn, 1) := by decide +kernel
theorem dX4_strokes_28 : decode cX4_strokes 28 = .ok (.iconst 0, 1) := by decide +kernel
theorem dX4_strokes_29 : decode cX4_strokes 29 = .ok (.istore 5, 2) := by decide +kernel
theorem dX4_strokes_31 : decode cX4_strokes 31 = .ok (.iconst 0, 1) := by decide +kernel
theorem dX4_strokes_32 : decode cX4_strokes 32 = .ok (.istore 6, 2) := by decide +kernel
theorem dX4_strokes_34 : decode cX4_strokes 34 = .ok (.iload 6, 2) := by decide +kernel
theorem dX4_strokes_36 : decode cX4_strokes 36 = .ok (.bipush 13, 2) := by decide +kernel
theorem dX4_strokes_38 : decode cX4_strokes 38 = .ok (.if_icmp .ge 79, 3) := by decide +kernel
theorem dX4_strokes_41 : decode cX4_strokes 41 = .ok (.iconst 0, 1) := by decide +kernel
theorem dX4_strokes_42 : decode cX4_strokes 42 = .ok (.istore 7, 2) := by decide +kernel
theorem dX4_strokes_44 : decode cX4_strokes 44 = .ok (.iload 7, 2) := by decide +kernel
theorem dX4_strokes_46 : decode cX4_strokes 46 = .ok (.bipush 12, 2) := by decide +kernel
theorem dX4_strokes_48 : decode cX4_strokes 48 = .ok (.if_icmp .ge 63, 3) := by decide +kernel
theorem dX4_strokes_51 : decode cX4_strokes 51 = .ok (.iload 5, 2) := by decide +kernel
theorem dX4_strokes_53 : decode cX4_strokes 53 = .ok (.aload_n 0, 1) := by decide +kernel
theorem dX4_strokes_54 : decode cX4_strokes 54 = .ok (.iload_n 1, 1) := by decide +kernel
theorem dX4_strokes_55 : decode cX4_strokes 55 = .ok (.iload_n 2, 1) := by decide +kernel
theorem dX4_strokes_56 : decode cX4_strokes 56 = .ok (.iload_n 3, 1) := by decide +kernel
theorem dX4_strokes_57 : decode cX4_strokes 57 = .ok (.iload 6, 2) := by decide +kernel
theorem dX4_strokes_59 : decode cX4_strokes 59 = .ok (.iload 7, 2) := by decide +kernel
theorem dX4_strokes_61 : decode cX4_strokes 61 = .ok (.iconst 0, 1) := by decide +kernel
theorem dX4_strokes_62 : decode cX4_strokes 62 = .ok (.invokevirtual 107, 3) := by decide +kernel
theorem dX4_strokes_65 : decode cX4_strokes 65 = .ok (.iload 4, 2) := by decide +kernel
theorem dX4_strokes_67 : decode cX4_strokes 67 = .ok (.if_icmp .ne 7, 3) := by decide +kernel
theorem dX4_strokes_70 : decode cX4_strokes 70 = .ok (.iconst 1, 1) := by decide +kernel
theorem dX4_strokes_71 : decode cX4_strokes 71 = .ok (.goto 4, 3) := by decide +kernel
theorem dX4_strokes_74 : decode cX4_strokes 74 = .ok (.iconst 0, 1) := by decide +kernel
theorem dX4_strokes_75 : decode cX4_strokes 75 = .ok (.iadd, 1) := by decide +kernel
theorem dX4_strokes_76 : decode cX4_strokes 76 = .ok (.istore 5, 2) := by decide +kernel
theorem dX4_strokes_78 : decode cX4_strokes 78 = .ok (.iload 5, 2) := by decide +kernel
theorem dX4_strokes_80 : decode cX4_strokes 80 = .ok (.aload_n 0, 1) := by decide +kernel
theorem dX4_strokes_81 : decode cX4_strokes 81 = .ok (.iload_n 1, 1) := by decide +kernel
theorem dX4_strokes_82 : decode cX4_strokes 82 = .ok (.iload_n 2, 1) := by decide +kernel
theorem dX4_strokes_83 : decode cX4_strokes 83 = .ok (.iload_n 3, 1) := by decide +kernel
theorem dX4_strokes_84 : decode cX4_strokes 84 = .ok (.iload 7, 2) := by decide +kernel
theorem dX4_strokes_86 : decode cX4_strokes 86 = .ok (.iload 6, 2) := by decide +kernel
theorem dX4_strokes_88 : decode cX4_strokes 88 = .ok (.iconst 1, 1) := by decide +kernel
theorem dX4_strokes_89 : decode cX4_strokes 89 = .ok (.invokevirtual 107, 3) := by decide +kernel
theorem dX4_strokes_92 : decode cX4_strokes 92 = .ok (.iload 4, 2) := by decide +kernel
theorem dX4_strokes_94 : decode cX4_strokes 94 = .ok (.if_icmp .ne 7, 3) := by decide +kernel
theorem dX4_strokes_97 : decode cX4_strokes 97 = .ok (.iconst 1, 1) := by decide +kernel
theorem dX4_strokes_98 : decode cX4_strokes 98 = .ok (.goto 4, 3) := by decide +kernel
theorem dX4_strokes_101 : decode cX4_strokes 101 = .ok (.iconst 0, 1) := by decide +kernel
theorem dX4_strokes_102 : decode cX4_strokes 102 = .ok (.iadd, 1) := by decide +kernel
theorem dX4_strokes_103 : decode cX4_strokes 103 = .ok (.istore 5, 2) := by decide +kernel
theorem dX4_strokes_105 : decode cX4_strokes 105 = .ok (.iinc 7 1, 3) := by decide +kernel
theorem dX4_strokes_108 : decode cX4_strokes 108 = .ok (.goto (-64), 3) := by decide +kernel
theorem dX4_strokes_111 : decode cX4_strokes 111 = .ok (.iinc 6 1, 3) := by decide +kernel
theorem dX4_strokes_114 : decode cX4_strokes 114 = .ok (.goto (-80), 3) := by decide +kernel
theorem dX4_strokes_117 : decode cX4_strokes 117 = .ok (.iload 5, 2) := by decide +kernel
theorem dX4_strokes_119 : decode cX4_strokes 119 = .ok (.ireturn, 1) := by decide +kernel
end
section
def hx_b (b : Bool) : Int32 := if b then 1 else 0
theorem hx_b0 {b : Bool} : hx_b b = 0 ↔ b = false := by cases b <;> decide
theorem hx_bn0 {b : Bool} : ¬ hx_b b = 0 ↔ b = true := by cases b <;> decide
theorem hx_bnar (b : Bool) : narrow .boolean (.int (hx_b b)) = .int (hx_b b) := by cases b <;> rfl
def hx_s (b : Bool) (x y : Int32) : Int32 := if b = true then x else y
theorem hs_inc (k : Nat) : nI k + Int32.ofInt 1 = nI (k + 1) := nI_1 k
theorem hs_incx (x : Int32) : x + Int32.ofInt 1 = x + 1 := rfl
theorem hs_dec (k : Nat) : nI (k + 1) + Int32.ofInt (-1) = nI k := pk_m1 k
theorem hs_decx (x : Int32) : x + Int32.ofInt (-1) = x + (-1) := rfl
def hx_it {α : Type} (f : Nat → α → α) : Nat → α → α
  | 0, a => a
  | k + 1, a => f k (hx_it f k a)
theorem hx_it_s {α : Type} (f : Nat → α → α) (k : Nat) (a : α) : hx_it f (k + 1) a = f k (hx_it f k a) := rfl
theorem hs_self {ws : va_W} {q : Nat} {x : Nat × va_E} (h : ws[q]? = some x) : ws.set q x = ws := by
  obtain ⟨hl, he⟩ := List.getElem?_eq_some_iff.mp h
  subst he
  exact List.set_getElem_self hl
theorem hs_got {ws : va_W} {q : Nat} {x0 x : Nat × va_E} (h : ws[q]? = some x0) : (ws.set q x)[q]? = some x := by
  have hl := (List.getElem?_eq_some_iff.mp h).1
  rw [List.getElem?_set_self hl]
theorem hs_oth {ws : va_W} {q q2 : Nat} {x y : Nat × va_E} (hne : q ≠ q2) (h : ws[q2]? = some y) : (ws.set q x)[q2]? = some y := by
  rw [List.getElem?_set_ne hne]; exact h
def hx_in (c n : Int32) : Bool := !(decide (c < 0)) && !(decide (n ≤ c))
def hx_pl (c : Int32) : Bool := !(decide (c < 0)) && !(decide (12 < c))
def hx_str (a w : Int32) : Bool := hx_in a 12 && (!(decide (w < 1)) && !(decide (12 - a < w)))
def hx_spl (u v x : Int32) : Bool := if x = 0 then hx_pl u && hx_in v 12 else decide (x = 1) && (hx_in u 12 && hx_pl v)
theorem hx_in_nat {c : Int32} {n : Nat} (hn : n < 2 ^ 31) (h : hx_in c (nI n) = true) : ∃ j : Nat, j < n ∧ c = nI j := by
  simp only [hx_in, Bool.and_eq_true, Bool.not_eq_true', decide_eq_false_iff_not] at h
  rcases pk_ix c hn with h1 | h1 | h1
  · exact absurd h1 h.1
  · exact absurd h1 h.2
  · exact h1
theorem hx_in_lt {j n : Nat} (h : j < n) (hn : n < 2 ^ 31) : hx_in (nI j) (nI n) = true := by
  simp only [hx_in, Bool.and_eq_true, Bool.not_eq_true', decide_eq_false_iff_not]
  exact ⟨nI_pos (by omega), nI_ge h hn⟩
def hx_col (f : Nat → Int32) (x y : Int32) : Int32 := if hx_in x 12 && hx_in y 12 then f (x * 12 + y).toNatClampNeg else 0
theorem hx_col_in {x y : Int32} (hx : hx_in x 12 = true) (hy : hx_in y 12 = true) : ∃ a b : Nat, a < 12 ∧ b < 12 ∧ x = nI a ∧ y = nI b ∧ x * 12 + y = nI (a * 12 + b) := by
  obtain ⟨a, ha, rfl⟩ := hx_in_nat (n := 12) (by decide) hx
  obtain ⟨b, hb, rfl⟩ := hx_in_nat (n := 12) (by decide) hy
  refine ⟨a, b, ha, hb, rfl, rfl, ?_⟩
  show nI a * nI 12 + nI b = _
  rw [pk_mul, nI_add]
theorem hx_col_vp {x y : Int32} (hx : hx_in x 12 = true) (hy : hx_in y 12 = true) : vp_in (x * 12 + y) 144 := by
  obtain ⟨a, b, ha, hb, -, -, e⟩ := hx_col_in hx hy
  rw [e]
  exact vp_in_nI (by omega) (by decide)
theorem hx_col_n {f : Nat → Int32} {a b : Nat} (ha : a < 12) (hb : b < 12) : hx_col f (nI a) (nI b) = f (a * 12 + b) := by
  have h1 : hx_in (nI a) 12 = true := hx_in_lt (n := 12) ha (by decide)
  have h2 : hx_in (nI b) 12 = true := hx_in_lt (n := 12) hb (by decide)
  unfold hx_col
  rw [h1, h2]
  have e : nI a * 12 + nI b = nI (a * 12 + b) := by
    show nI a * nI 12 + nI b = _
    rw [pk_mul, nI_add]
  rw [e, nI_clamp (by omega)]
  rfl
theorem hx_col_x {f : Nat → Int32} {x y : Int32} (hx : hx_in x 12 = false) : hx_col f x y = 0 := by
  unfold hx_col; rw [hx]; rfl
theorem hx_col_y {f : Nat → Int32} {x y : Int32} (hy : hx_in y 12 = false) : hx_col f x y = 0 := by
  unfold hx_col; rw [hy, Bool.and_false]; rfl
def hx_al (f : Nat → Int32) (ax u v : Int32) : Int32 := if ax = 2 then hx_col f u v else if hx_in v 12 = false then 0 else hx_it (fun c b => b ||| ((((if ax = 0 then hx_col f (nI c) u else hx_col f u (nI c)) >>> (v &&& 31)) &&& 1) <<< (nI c &&& 31))) 12 0
def hx_fill (g : Nat → Nat → Int32) (F : Nat → Int32) : Nat → Int32 := hx_it (fun x F => hx_it (fun y F => upd F (x * 12 + y) (g x y)) 12 F) 12 F
def hj_u (x n : Int32) : Int32 := (x.toUInt32 >>> (n.toUInt32 &&& Int32.toUInt32 31)).toInt32
def hj_bc1 (i : Int32) : Int32 := i - (hj_u i 1 &&& 1431655765)
def hj_bc2 (i : Int32) : Int32 := (i &&& 858993459) + (hj_u i 2 &&& 858993459)
def hj_bc3 (i : Int32) : Int32 := (i + hj_u i 4) &&& 252645135
def hj_bc4 (i : Int32) : Int32 := i + hj_u i 8
def hj_bc5 (i : Int32) : Int32 := i + hj_u i 16
def hj_bc (i : Int32) : Int32 := hj_bc5 (hj_bc4 (hj_bc3 (hj_bc2 (hj_bc1 i)))) &&& 63
def hj_rb (i : Int32) : Int32 := (((i <<< ((24 : Int32) &&& 31)) ||| ((i &&& 65280) <<< ((8 : Int32) &&& 31))) ||| (hj_u i 8 &&& 65280)) ||| hj_u i 24
def hj_r1 (i : Int32) : Int32 := ((i &&& 1431655765) <<< ((1 : Int32) &&& 31)) ||| (hj_u i 1 &&& 1431655765)
def hj_r2 (i : Int32) : Int32 := ((i &&& 858993459) <<< ((2 : Int32) &&& 31)) ||| (hj_u i 2 &&& 858993459)
def hj_r3 (i : Int32) : Int32 := ((i &&& 252645135) <<< ((4 : Int32) &&& 31)) ||| (hj_u i 4 &&& 252645135)
def hj_rev (i : Int32) : Int32 := hj_rb (hj_r3 (hj_r2 (hj_r1 i)))
def hj_nl (t sh m : Int32) (P : Int32 × Int32) : Int32 × Int32 := if P.1 < t then P else (hj_u P.1 sh, P.2 + m)
def hj_nt (t sh m : Int32) (P : Int32 × Int32) : Int32 × Int32 := if P.1 ≤ t then P else (hj_u P.1 sh, P.2 + m)
def hj_nlz (i : Int32) : Int32 := if 0 < i then (hj_nl 4 2 (Int32.ofInt (-2)) (hj_nl 16 4 (Int32.ofInt (-4)) (hj_nl 256 8 (Int32.ofInt (-8)) (hj_nl 65536 16 (Int32.ofInt (-16)) (i, 31))))).2 - hj_u (hj_nl 4 2 (Int32.ofInt (-2)) (hj_nl 16 4 (Int32.ofInt (-4)) (hj_nl 256 8 (Int32.ofInt (-8)) (hj_nl 65536 16 (Int32.ofInt (-16)) (i, 31))))).1 1 else if i = 0 then 32 else 0
def hj_ntm (i : Int32) : Int32 := (i ^^^ (-1)) &&& (i - 1)
def hj_ntz (i : Int32) : Int32 := if 0 < hj_ntm i then (hj_nt 4 2 (Int32.ofInt 2) (hj_nt 16 4 (Int32.ofInt 4) (hj_nt 256 8 (Int32.ofInt 8) (hj_nt 65536 16 (Int32.ofInt 16) (hj_ntm i, 1))))).2 + hj_u (hj_nt 4 2 (Int32.ofInt 2) (hj_nt 16 4 (Int32.ofInt 4) (hj_nt 256 8 (Int32.ofInt 8) (hj_nt 65536 16 (Int32.ofInt 16) (hj_ntm i, 1))))).1 1 else hj_ntm i &&& 32
def hx_ea (a b c d : Int32) : Int32 := ((a ^^^ b) ||| (c ^^^ d)) &&& ((a ^^^ c) ||| (b ^^^ d))
def hx_eb (a c : Int32) : Int32 := hx_ea a (a <<< ((1 : Int32) &&& 31)) c (c <<< ((1 : Int32) &&& 31))
def hx_span (a b : Int32) : Int32 := ((1 : Int32) <<< ((b + 1) &&& 31)) - ((1 : Int32) <<< (a &&& 31))
def hx_jn (a b w : Int32) : Int32 := if w = 0 then a ||| b else if w = 1 then a &&& b else if w = 2 then a &&& (b ^^^ (-1)) else a ^^^ b
def hx_rev (c : Int32) : Int32 := hj_u (hj_rev c) 20
def hx_tc (f : Nat → Int32) (ax x y : Int32) : Int32 := if ax = 0 then hx_al f 1 x (11 - y) else if ax = 1 then hx_rev (hx_al f 0 y x) else hx_col f y (11 - x)
def hx_mc (f : Nat → Int32) (ax x y : Int32) : Int32 := if ax = 0 then hx_col f (11 - x) y else if ax = 1 then hx_col f x (11 - y) else hx_rev (hx_col f x y)
def hx_dep (c ab : Int32) : Int32 := if c = 0 then 12 else if ab = 0 then hj_ntz c else hj_nlz c - 20
def hx_sb (c n ab : Int32) : Int32 := if hx_dep c ab = hx_dep n ab then (if hx_eb c n = 0 then 0 else 1) else 2
def hx_cnt (f : Nat → Int32) : Int32 := hx_it (fun i n => n + hj_bc (f i)) 144 0
def hx_layer (f : Nat → Int32) (ax w : Int32) : Int32 := hx_it (fun i n => n + hj_bc (if ax = 0 then hx_col f w (nI i) else if ax = 1 then hx_col f (nI i) w else hx_al f 0 (nI i) w)) 12 0
def hx_fst (P : Nat → Bool) : Nat → Nat → Nat
  | 0, k => k
  | d + 1, k => if P k then k else hx_fst P d (k + 1)
def hx_lst (P : Nat → Bool) : Nat → Nat
  | 0 => 12
  | k + 1 => if P k then k else hx_lst P k
def hx_least (f : Nat → Int32) (ax : Int32) : Int32 := nI (hx_fst (fun w => decide (0 < hx_layer f ax (nI w))) 12 0)
def hx_great (f : Nat → Int32) (ax : Int32) : Int32 := nI (hx_lst (fun w => decide (0 < hx_layer f ax (nI w))) 12)
def hx_side1 (f : Nat → Int32) (x y n : Int32) : Int32 := n + hj_bc (hx_col f x y ^^^ hx_col f (x - 1) y) + hj_bc (hx_col f x y ^^^ hx_col f x (y - 1)) + hj_bc (hx_col f x y ^^^ (hx_col f x y <<< ((1 : Int32) &&& 31)))
def hx_sides (f : Nat → Int32) : Int32 := hx_it (fun x n => hx_it (fun y n => hx_side1 f (nI x) (nI y) n) 13 n) 13 0
def hx_edge1 (f : Nat → Int32) (x y n : Int32) : Int32 := n + hj_bc (hx_eb (hx_col f (x - 1) y) (hx_col f x y)) + hj_bc (hx_eb (hx_col f x (y - 1)) (hx_col f x y)) + hj_bc (hx_ea (hx_col f (x - 1) (y - 1)) (hx_col f x (y - 1)) (hx_col f (x - 1) y) (hx_col f x y))
def hx_edges (f : Nat → Int32) : Int32 := hx_it (fun x n => hx_it (fun y n => hx_edge1 f (nI x) (nI y) n) 13 n) 13 0
def hx_pair (f : Nat → Int32) (x y z : Int32) : Int32 := hj_bc (((hx_col f x y <<< ((1 : Int32) &&& 31)) >>> (z &&& 31)) &&& 3)
def hx_ar (f : Nat → Int32) (x y z : Int32) : Int32 := hx_pair f (x - 1) (y - 1) z + hx_pair f (x - 1) y z + hx_pair f x (y - 1) z + hx_pair f x y z
def hx_eq (f g : Nat → Int32) (n : Nat) : Bool := (List.range n).all (fun i => decide (f i = g i))
def hx_vw (f : Nat → Int32) (ax : Int32) (x y : Nat) : Int32 := hx_al f ax (nI x) (nI y)
def hx_bx (x0 y0 z0 x1 y1 z1 : Int32) (x y : Nat) : Int32 := if nI x < x0 ∨ x1 < nI x ∨ nI y < y0 ∨ y1 < nI y then 0 else hx_span z0 z1
def hx_sh (f : Nat → Int32) (dx dy dz : Int32) (x y : Nat) : Int32 := if 0 ≤ dz then hx_col f (nI x - dx) (nI y - dy) <<< (dz &&& 31) else hx_col f (nI x - dx) (nI y - dy) >>> ((-dz) &&& 31)
def hx_sw (f : Nat → Int32) (ax w a b : Int32) (x y : Nat) : Int32 := if ax = 0 then (if nI x < a ∨ b < nI x then 0 else hx_col f w (nI y)) else if ax = 1 then (if nI y < a ∨ b < nI y then 0 else hx_col f (nI x) w) else if (hx_col f (nI x) (nI y) >>> (w &&& 31)) &&& 1 = 1 then hx_span a b else 0
def hx_wl (f : Nat → Int32) (ax d : Int32) : Bool := !(decide (hx_least f ax = 12)) && (decide (d < -(hx_least f ax)) || decide (11 - hx_great f ax < d))
theorem hx_sw3 (x : Int32) : x = 0 ∨ x = 1 ∨ x = 2 ∨ ((x.toInt < 0 ∨ 2 < x.toInt) ∧ ¬ x = 0 ∧ ¬ x = 1 ∧ ¬ x = 2) := by
  by_cases h0 : x = 0
  · exact Or.inl h0
  by_cases h1 : x = 1
  · exact Or.inr (Or.inl h1)
  by_cases h2 : x = 2
  · exact Or.inr (Or.inr (Or.inl h2))
  refine Or.inr (Or.inr (Or.inr ⟨?_, h0, h1, h2⟩))
  have e0 : ¬ x.toInt = 0 := fun q => h0 (Int32.toInt_inj.mp (by rw [q]; rfl))
  have e1 : ¬ x.toInt = 1 := fun q => h1 (Int32.toInt_inj.mp (by rw [q]; rfl))
  have e2 : ¬ x.toInt = 2 := fun q => h2 (Int32.toInt_inj.mp (by rw [q]; rfl))
  omega
theorem hx_eq_t {f g : Nat → Int32} {n : Nat} (h : ∀ i, i < n → f i = g i) : hx_eq f g n = true := by
  unfold hx_eq
  rw [List.all_eq_true]
  intro i hi
  exact decide_eq_true (h i (List.mem_range.mp hi))
theorem hx_eq_f {f g : Nat → Int32} {n i : Nat} (hi : i < n) (h : ¬ f i = g i) : hx_eq f g n = false := by
  rw [Bool.eq_false_iff]
  intro q
  unfold hx_eq at q
  rw [List.all_eq_true] at q
  exact h (of_decide_eq_true (q i (List.mem_range.mpr hi)))
def hx_dn : Nat → Int32
  | 0 => -1
  | n + 1 => nI n
theorem hs_dn (n : Nat) : nI n + Int32.ofInt (-1) = hx_dn n := by
  cases n with
  | zero => decide
  | succ m => exact pk_m1 m
def hx_jf (f g : Nat → Int32) (w : Int32) (F : Nat → Int32) : Nat → Int32 := hx_it (fun i F => upd F i (hx_jn (f i) (g i) w)) 144 F
def hc_rd (F : (Nat → Int32) → Int32) (cols : Nat → Nat → Int32) (sol : Nat → Nat) (s : Int32) : Int32 := if hx_in s 6 = true then F (cols (sol s.toNatClampNeg)) else -1
theorem hc_rd_ok {F : (Nat → Int32) → Int32} {cols : Nat → Nat → Int32} {sol : Nat → Nat} {i : Nat} (hi : i < 6) : hc_rd F cols sol (nI i) = F (cols (sol i)) := by
  unfold hc_rd
  have h1 : hx_in (nI i) 6 = true := hx_in_lt (n := 6) hi (by decide)
  rw [if_pos h1, nI_clamp (by omega)]
theorem hc_rd_bad {F : (Nat → Int32) → Int32} {cols : Nat → Nat → Int32} {sol : Nat → Nat} {s : Int32} (h : hx_in s 6 = false) : hc_rd F cols sol s = -1 := by
  unfold hc_rd
  rw [h]; rfl
def hq_o (o d : Nat) : Nat := if d = 12 then (o + 1) % 12 else o
def hq_d (d : Nat) : Nat := if d = 12 then 11 else d
def hq_p (o d : Nat) : Nat := (hq_o o d + hq_d d) % 12
theorem hq_p_lt (o d : Nat) : hq_p o d < 12 := Nat.mod_lt _ (by decide)
abbrev HF : Type := (Nat → Int32) × (Nat → Int32) × Nat
def hf_take (x y b : Int32) (X : HF) : HF := if hx_in x 12 = true then (if hx_in y 12 = true then (if X.1 ((x * 12) + y).toNatClampNeg &&& b = 0 then X else if X.2.2 < 1728 then (upd X.1 ((x * 12) + y).toNatClampNeg (X.1 ((x * 12) + y).toNatClampNeg ^^^ (X.1 ((x * 12) + y).toNatClampNeg &&& b)), upd X.2.1 X.2.2 ((((x * 12) + y) <<< ((12 : Int32) &&& 31)) ||| (X.1 ((x * 12) + y).toNatClampNeg &&& b)), X.2.2 + 1) else X) else X) else X
theorem hf_take_le {x y b : Int32} {X : HF} (h : X.2.2 ≤ 1728) : (hf_take x y b X).2.2 ≤ 1728 := by
  unfold hf_take
  split
  · split
    · split
      · exact h
      · split
        · rename_i h4
          exact h4
        · exact h
    · exact h
  · exact h
def hf_one (i : Nat) (X : HF) : HF :=
  hf_take ((X.2.1 i >>> ((12 : Int32) &&& 31)) / 12) (((X.2.1 i >>> ((12 : Int32) &&& 31)) - (X.2.1 i >>> ((12 : Int32) &&& 31)) / 12 * 12) + 1) (X.2.1 i &&& 4095)
  (hf_take ((X.2.1 i >>> ((12 : Int32) &&& 31)) / 12) (((X.2.1 i >>> ((12 : Int32) &&& 31)) - (X.2.1 i >>> ((12 : Int32) &&& 31)) / 12 * 12) - 1) (X.2.1 i &&& 4095)
  (hf_take (((X.2.1 i >>> ((12 : Int32) &&& 31)) / 12) + 1) ((X.2.1 i >>> ((12 : Int32) &&& 31)) - (X.2.1 i >>> ((12 : Int32) &&& 31)) / 12 * 12) (X.2.1 i &&& 4095)
  (hf_take (((X.2.1 i >>> ((12 : Int32) &&& 31)) / 12) - 1) ((X.2.1 i >>> ((12 : Int32) &&& 31)) - (X.2.1 i >>> ((12 : Int32) &&& 31)) / 12 * 12) (X.2.1 i &&& 4095)
  (hf_take ((X.2.1 i >>> ((12 : Int32) &&& 31)) / 12) ((X.2.1 i >>> ((12 : Int32) &&& 31)) - (X.2.1 i >>> ((12 : Int32) &&& 31)) / 12 * 12) (((X.2.1 i &&& 4095) <<< ((1 : Int32) &&& 31)) ||| ((X.2.1 i &&& 4095) >>> ((1 : Int32) &&& 31))) X))))
theorem hf_one_le {i : Nat} {X : HF} (h : X.2.2 ≤ 1728) : (hf_one i X).2.2 ≤ 1728 := hf_take_le (hf_take_le (hf_take_le (hf_take_le (hf_take_le h))))
def hf_sp : Nat → Nat → HF → HF
  | 0, _, X => X
  | d + 1, i, X => if i < X.2.2 then hf_sp d (i + 1) (hf_one i X) else X
theorem hf_sp_le : ∀ (d i : Nat) (X : HF), X.2.2 ≤ 1728 → (hf_sp d i X).2.2 ≤ 1728 := by
  intro d
  induction d with
  | zero => intro i X h; exact h
  | succ d ih =>
    intro i X h
    unfold hf_sp
    split
    · exact ih _ _ (hf_one_le h)
    · exact h
def hf_cf (x0 y0 : Int32) (X : HF) : HF × Int32 := hx_it (fun z (Z : HF × Int32) => if 0 < (hf_take x0 y0 ((1 : Int32) <<< (nI z &&& 31)) (Z.1.1, Z.1.2.1, 0)).2.2 then (hf_sp 1728 0 (hf_take x0 y0 ((1 : Int32) <<< (nI z &&& 31)) (Z.1.1, Z.1.2.1, 0)), Z.2 + 1) else (hf_take x0 y0 ((1 : Int32) <<< (nI z &&& 31)) (Z.1.1, Z.1.2.1, 0), Z.2)) 12 (X, 0)
def hf_cl (X : HF) : HF × Int32 := hx_it (fun x (Z : HF × Int32) => hx_it (fun y (Z : HF × Int32) => ((hf_cf (nI x) (nI y) Z.1).1, Z.2 + (hf_cf (nI x) (nI y) Z.1).2)) 12 Z) 12 (X, 0)
theorem hx_it_inv {α : Type} {P : α → Prop} {f : Nat → α → α} {a : α} {n : Nat} (hs : ∀ k b, P b → P (f k b)) (h0 : P a) : P (hx_it f n a) := by
  induction n with
  | zero => exact h0
  | succ n ih => exact hs n _ ih
def hf_bm (x y : Nat) : Int32 := if nI x = 0 ∨ nI x = 11 ∨ nI y = 0 ∨ nI y = 11 then 4095 else 2049
def hf_db (X : HF) : HF := hf_sp 1728 0 (hx_it (fun x F => hx_it (fun y F => hf_take (nI x) (nI y) (hf_bm x y) F) 12 F) 12 (X.1, X.2.1, 0))
theorem hf_db_le (X : HF) : (hf_db X).2.2 ≤ 1728 := hf_sp_le _ _ _ (hx_it_inv (P := fun F : HF => F.2.2 ≤ 1728) (fun _ _ h1 => hx_it_inv (P := fun F : HF => F.2.2 ≤ 1728) (fun _ _ h2 => hf_take_le h2) h1) (Nat.zero_le _))
def hf_pc (f : Nat → Int32) (X : HF) : HF × Int32 := hf_cl (hx_it (fun i F => upd F i (f i)) 144 X.1, X.2.1, X.2.2)
def hf_hl (f : Nat → Int32) (X : HF) : HF × Int32 := hf_cl (hf_db (hx_it (fun i F => upd F i (4095 &&& (f i ^^^ (-1)))) 144 X.1, X.2.1, X.2.2))
def hc_if (b : Bool) (w v : Int32) : Int32 := if b = true then v else w
def hc_mom (f : Nat → Int32) (ax : Int32) : Int32 := hx_it (fun k n => n + (nI (2 * k + 1)) * hx_layer f ax (nI k)) 12 0
def hc_sk1 (V : Nat → Int32) (ab kd u v n : Int32) : Int32 := if hx_sb (hx_col V u (v - 1)) (hx_col V u v) ab = kd then (if hx_sb (hx_col V (u - 1) v) (hx_col V u v) ab = kd then n + 1 else n) + 1 else (if hx_sb (hx_col V (u - 1) v) (hx_col V u v) ab = kd then n + 1 else n)
def hc_sk (V : Nat → Int32) (ab kd : Int32) : Int32 := hx_it (fun u n => hx_it (fun v n => hc_sk1 V ab kd (nI u) (nI v) n) 13 n) 13 0
theorem hs_up_same {α : Type} (f : Nat → α) (k : Nat) : va_up f k (f k) = f := by
  funext j
  unfold va_up
  split
  · rename_i h; rw [h]
  · rfl
theorem hs_upo {g : Nat → Nat} {oth : Nat → Nat} {p b : Nat} : va_up (fun i => some (g (13 + oth i))) p (some (g (13 + b))) = fun i => some (g (13 + va_up oth p b i)) := by
  funext i
  simp only [va_up]
  split <;> rfl
def hy_shd (c w : Int32) : Int32 := if -12 < w ∧ w < 12 ∧ hx_in (c + w) 12 = true then c + w else -1
def hy_ix (s : Nat) (x y : Int32) : Int32 := nI (144 * s) + (12 * x) + y
theorem hy_ixn {s a b : Nat} : hy_ix s (nI a) (nI b) = nI (144 * s + 12 * a + b) := by
  show nI (144 * s) + (nI 12 * nI a) + nI b = _
  rw [pk_mul, nI_add, nI_add]
theorem hy_ixv {s : Nat} {x y : Int32} (hs : s < 6) (hx : hx_in x 12 = true) (hy : hx_in y 12 = true) : vp_in (hy_ix s x y) 4464 := by
  obtain ⟨a, ha, rfl⟩ := hx_in_nat (n := 12) (by decide) hx
  obtain ⟨b, hb, rfl⟩ := hx_in_nat (n := 12) (by decide) hy
  rw [hy_ixn]
  exact vp_in_nI (by omega) (by decide)
def hy_has (bi : Nat → Int32) (s : Nat) (x y z : Int32) : Bool := hx_in x 12 && (hx_in y 12 && (hx_in z 12 && decide ((bi (hy_ix s x y).toNatClampNeg >>> (z &&& 31)) &&& 1 = 1)))
def hy_hb (bi : Nat → Int32) (s : Nat) (ax o u v : Int32) : Bool := if ax = 0 then hy_has bi s o u v else if ax = 1 then hy_has bi s u o v else hy_has bi s u v o
def hy_clr (bi : Nat → Int32) : Nat → Int32 := hx_it (fun k b => upd b (864 + k) 0) 144 bi
def hy_put (bi : Nat → Int32) (x y : Nat) (z : Int32) : Nat → Int32 := upd bi (864 + 12 * x + y) (bi (864 + 12 * x + y) ||| ((1 : Int32) <<< (z &&& 31)))
def hy_cpy (bi : Nat → Int32) (a b : Nat) : Nat → Int32 := hx_it (fun k c => upd c (b + k) (c (a + k))) 144 bi
def hy_cnt (bi : Nat → Int32) (s : Nat) : Int32 := hx_it (fun k n => n + ((bi (144 * s + k / 12) >>> (nI (k % 12) &&& 31)) &&& 1)) 1728 0
def hy_ed (bi : Nat → Int32) (s : Nat) (ax o u v : Int32) : Bool :=
  decide (hx_s (hy_hb bi s ax o (u - 1) (v - 1)) 1 0 + hx_s (hy_hb bi s ax o u (v - 1)) 1 0 + hx_s (hy_hb bi s ax o (u - 1) v) 1 0 + hx_s (hy_hb bi s ax o u v) 1 0 = 1) || (decide (hx_s (hy_hb bi s ax o (u - 1) (v - 1)) 1 0 + hx_s (hy_hb bi s ax o u (v - 1)) 1 0 + hx_s (hy_hb bi s ax o (u - 1) v) 1 0 + hx_s (hy_hb bi s ax o u v) 1 0 = 3) || (decide (hx_s (hy_hb bi s ax o (u - 1) (v - 1)) 1 0 + hx_s (hy_hb bi s ax o u (v - 1)) 1 0 + hx_s (hy_hb bi s ax o (u - 1) v) 1 0 + hx_s (hy_hb bi s ax o u v) 1 0 = 2) && decide (hx_b (hy_hb bi s ax o (u - 1) (v - 1)) = hx_b (hy_hb bi s ax o u v))))
def hy_at (bi : Nat → Int32) (s : Nat) (ax w : Int32) : Int32 := hx_it (fun k n => n + hx_s (hy_hb bi s ax w (nI (k / 12)) (nI (k % 12))) 1 0) 144 0
def hy_dep (bi : Nat → Int32) (s : Nat) (ax b u v : Int32) : Int32 := nI (hx_fst (fun n => hy_hb bi s ax (if b = 0 then nI n else 11 - nI n) u v) 12 0)
def hy_ea (bi : Nat → Int32) (s : Nat) (ax u v x w : Int32) : Bool := if ax = 0 then (if x = 0 then hy_ed bi s 2 v w u else hy_ed bi s 1 u w v) else if ax = 1 then (if x = 0 then hy_ed bi s 2 v u w else hy_ed bi s 0 u w v) else (if x = 0 then hy_ed bi s 1 v u w else hy_ed bi s 0 u v w)
def hy_st (bi : Nat → Int32) (s : Nat) (ax b u v x : Int32) : Int32 := if (if x = 0 then hy_dep bi s ax b (u - 1) v else hy_dep bi s ax b u (v - 1)) = hy_dep bi s ax b u v then hx_it (fun k n => if hy_ea bi s ax u v x (nI k) = true then 1 else n) 13 0 else 2
def hy_sd1 (bi : Nat → Int32) (s k : Nat) (n : Int32) : Int32 :=
  if hy_has bi s (nI (k / 144)) (nI (k / 12 % 12)) (nI (k % 12)) = true then
    (n + ((hx_s (hy_has bi s (nI (k / 144) - 1) (nI (k / 12 % 12)) (nI (k % 12))) 0 1 + hx_s (hy_has bi s (nI (k / 144 + 1)) (nI (k / 12 % 12)) (nI (k % 12))) 0 1) + hx_s (hy_has bi s (nI (k / 144)) (nI (k / 12 % 12) - 1) (nI (k % 12))) 0 1))
      + ((hx_s (hy_has bi s (nI (k / 144)) (nI (k / 12 % 12 + 1)) (nI (k % 12))) 0 1 + hx_s (hy_has bi s (nI (k / 144)) (nI (k / 12 % 12)) (nI (k % 12) - 1)) 0 1) + hx_s (hy_has bi s (nI (k / 144)) (nI (k / 12 % 12)) (nI (k % 12 + 1))) 0 1)
  else n
def hy_sd (bi : Nat → Int32) (s : Nat) : Int32 := hx_it (fun k n => hy_sd1 bi s k n) 1728 0
def hy_eg (bi : Nat → Int32) (s : Nat) : Int32 := hx_it (fun ax n => hx_it (fun o n => hx_it (fun u n => hx_it (fun v n => n + hx_s (hy_ed bi s (nI ax) (nI o) (nI u) (nI v)) 1 0) 13 n) 13 n) 12 n) 3 0
def hy_mom (bi : Nat → Int32) (s : Nat) (ax : Int32) : Int32 := hx_it (fun k n => n + (nI (2 * k + 1)) * hy_at bi s ax (nI k)) 12 0
def hy_ex1 (n k : Int32) (Z : Int32 × Int32) : Int32 × Int32 := if n ≤ 0 then Z else (if Z.1 = 12 then k else Z.1, k)
def hy_ex (bi : Nat → Int32) (s : Nat) (ax : Int32) : Int32 × Int32 := hx_it (fun k (Z : Int32 × Int32) => hy_ex1 (hy_at bi s ax (nI k)) (nI k) Z) 12 (12, 12)
def hy_sp (u v x : Int32) : Bool := if x = 0 then hx_in u 13 && hx_in v 12 else decide (x = 1) && (hx_in u 12 && hx_in v 13)
def hy_sk1 (bi : Nat → Int32) (s : Nat) (ax b w : Int32) (u v : Nat) (n : Int32) : Int32 := (n + (if hy_st bi s ax b (nI u) (nI v) 0 = w then 1 else 0)) + (if hy_st bi s ax b (nI v) (nI u) 1 = w then 1 else 0)
def hy_sk (bi : Nat → Int32) (s : Nat) (ax b w : Int32) : Int32 := hx_it (fun u n => hx_it (fun v n => hy_sk1 bi s ax b w u v n) 12 n) 13 0
def hy_stp (bi wh : Nat → Int32) (d s : Nat) : (Nat → Int32) × (Nat → Int32) :=
  (hy_cpy (hy_cpy (hy_cpy (if d = 12 then hx_it (fun k (Z : (Nat → Int32) × (Nat → Int32)) => (hy_cpy (hy_cpy Z.1 (1008 + (144 * (k + 1))) (1008 + (144 * k))) (2736 + (144 * (k + 1))) (2736 + (144 * k)), upd Z.2 k (Z.2 (k + 1)))) 11 (bi, wh) else (bi, wh)).1 (144 * s) (1008 + (144 * hq_d d))) 864 (2736 + (144 * hq_d d))) 864 (144 * s),
   upd (if d = 12 then hx_it (fun k (Z : (Nat → Int32) × (Nat → Int32)) => (hy_cpy (hy_cpy Z.1 (1008 + (144 * (k + 1))) (1008 + (144 * k))) (2736 + (144 * (k + 1))) (2736 + (144 * k)), upd Z.2 k (Z.2 (k + 1)))) 11 (bi, wh) else (bi, wh)).2 (hq_d d) (nI s))
def hy_jc (p q : Bool) (w : Int32) : Bool := if w = 0 then p || q else if w = 1 then p && q else if w = 2 then p && !q else p ^^ q
def hy_tc (b : Nat → Int32) (s : Nat) (ax : Int32) (k : Nat) : Bool := if ax = 0 then hy_has b s (nI (k / 144)) (nI (k % 12)) (11 - nI ((k / 12) % 12)) else if ax = 1 then hy_has b s (11 - nI (k % 12)) (nI ((k / 12) % 12)) (nI (k / 144)) else hy_has b s (nI ((k / 12) % 12)) (11 - nI (k / 144)) (nI (k % 12))
def hy_mc (b : Nat → Int32) (s : Nat) (ax : Int32) (k : Nat) : Bool := hy_has b s (if ax = 0 then 11 - nI (k / 144) else nI (k / 144)) (if ax = 1 then 11 - nI ((k / 12) % 12) else nI ((k / 12) % 12)) (if ax = 2 then 11 - nI (k % 12) else nI (k % 12))
theorem hs_m1p (a : Nat) : (nI a - 1) + Int32.ofInt 1 = nI a := by
  show (nI a - 1) + 1 = nI a
  exact Int32.sub_add_cancel _ _
theorem hs_m1n {a : Nat} (h : a < 2 ^ 30) : ¬ nI a < nI a - 1 := by
  rw [Int32.lt_iff_toInt_lt]
  show ¬ (nI a).toInt < (nI a - nI 1).toInt
  rw [nI_toInt (by omega), pk_sub_toInt h (by decide)]
  omega
def hy_same (bi : Nat → Int32) (s t : Nat) : Bool := hx_it (fun k b => b && decide (bi (144 * s + k) = bi (144 * t + k))) 144 true
def hy_ins (bi : Nat → Int32) (s : Nat) (x y z : Int32) : Int32 := (((((((0 + hx_s (hy_has bi s (x - 1) (y - 1) (z - 1)) 1 0) + hx_s (hy_has bi s (x - 1) (y - 1) z) 1 0) + hx_s (hy_has bi s (x - 1) y (z - 1)) 1 0) + hx_s (hy_has bi s (x - 1) y z) 1 0) + hx_s (hy_has bi s x (y - 1) (z - 1)) 1 0) + hx_s (hy_has bi s x (y - 1) z) 1 0) + hx_s (hy_has bi s x y (z - 1)) 1 0) + hx_s (hy_has bi s x y z) 1 0
theorem hx_pos_nat {w : Int32} (h1 : ¬ w ≤ 0) (h2 : ¬ 12 < w) : ∃ n : Nat, 0 < n ∧ n ≤ 12 ∧ w = nI n := by
  have h0 : ¬ w < 0 := fun q => h1 (Int32.le_of_lt q)
  obtain ⟨j, hj, rfl⟩ := nI_of2 (M := 12) (n := 12) (by decide) h0 (Int32.not_lt.mp h2)
  refine ⟨j, ?_, hj, rfl⟩
  rcases Nat.eq_zero_or_pos j with h | h
  · subst h; exact absurd (by decide) h1
  · exact h
def hy_swp (ax : Int32) (b : Nat → Int32) (u v c : Nat) : Nat → Int32 := if ax = 0 then (if ax = 1 then (if ax = 2 then hy_put (hy_put (hy_put b c u (nI v)) u c (nI v)) u v (nI c) else hy_put (hy_put b c u (nI v)) u c (nI v)) else (if ax = 2 then hy_put (hy_put b c u (nI v)) u v (nI c) else hy_put b c u (nI v))) else (if ax = 1 then (if ax = 2 then hy_put (hy_put b u c (nI v)) u v (nI c) else hy_put b u c (nI v)) else (if ax = 2 then hy_put b u v (nI c) else b))
def hy_swl (s : Nat) (ax w : Int32) (u v : Nat) : Nat → Nat → (Nat → Int32) → (Nat → Int32)
  | 0, _, b => b
  | d + 1, c, b => if hy_hb b s ax w (nI u) (nI v) = true then hy_swl s ax w u v d (c + 1) (hy_swp ax b u v c) else b
def hy_shf (bi : Nat → Int32) (s : Nat) (dx dy dz : Int32) (n : Nat) : Nat → Int32 := hx_it (fun k b => if hy_has b s (nI (k / 144)) (nI ((k / 12) % 12)) (nI (k % 12)) = true then hy_put b (hy_shd (nI (k / 144)) dx).toNatClampNeg (hy_shd (nI ((k / 12) % 12)) dy).toNatClampNeg (hy_shd (nI (k % 12)) dz) else b) n (hy_clr bi)
theorem hy_shf_s (bi : Nat → Int32) (s : Nat) (dx dy dz : Int32) (k : Nat) : hy_shf bi s dx dy dz (k + 1) = if hy_has (hy_shf bi s dx dy dz k) s (nI (k / 144)) (nI ((k / 12) % 12)) (nI (k % 12)) = true then hy_put (hy_shf bi s dx dy dz k) (hy_shd (nI (k / 144)) dx).toNatClampNeg (hy_shd (nI ((k / 12) % 12)) dy).toNatClampNeg (hy_shd (nI (k % 12)) dz) else hy_shf bi s dx dy dz k := rfl
def hy_sbad (bi : Nat → Int32) (s : Nat) (dx dy dz : Int32) (k : Nat) : Bool := hy_has (hy_shf bi s dx dy dz k) s (nI (k / 144)) (nI ((k / 12) % 12)) (nI (k % 12)) && (decide (hy_shd (nI (k / 144)) dx < 0) || (decide (hy_shd (nI ((k / 12) % 12)) dy < 0) || decide (hy_shd (nI (k % 12)) dz < 0)))
theorem hy_shd_nat {c w : Int32} (h : ¬ hy_shd c w < 0) : ∃ j : Nat, j < 12 ∧ hy_shd c w = nI j := by
  unfold hy_shd at h ⊢
  split
  · rename_i h1
    exact hx_in_nat (n := 12) (by decide) h1.2.2
  · rename_i h1
    rw [if_neg h1] at h
    exact absurd (by decide) h
theorem hy_sev {x y : Int32} (hx : hx_in x 12 = true) (hy : hx_in y 12 = true) : vp_in ((12 * x) + y) 144 := by
  obtain ⟨a, ha, rfl⟩ := hx_in_nat (n := 12) (by decide) hx
  obtain ⟨b, hb, rfl⟩ := hx_in_nat (n := 12) (by decide) hy
  have e : 12 * nI a + nI b = nI (12 * a + b) := by
    show nI 12 * nI a + nI b = _
    rw [pk_mul, nI_add]
  rw [e]
  exact vp_in_nI (by omega) (by decide)
def hm_new (bi : Nat → Int32) (s : Nat) (w : Int32) (Y : HF) (x y z : Int32) : Bool := hx_in x 12 && (hx_in y 12 && (hx_in z 12 && (decide (hx_b (hy_has bi s x y z) = w) && !(decide ((Y.1 ((12 * x) + y).toNatClampNeg >>> (z &&& 31)) &&& 1 = 1)))))
def hm_see (bi : Nat → Int32) (s : Nat) (w : Int32) (x y z : Int32) (Y : HF) : HF := if hm_new bi s w Y x y z = true then (upd Y.1 ((12 * x) + y).toNatClampNeg (Y.1 ((12 * x) + y).toNatClampNeg ||| ((1 : Int32) <<< (z &&& 31))), upd Y.2.1 Y.2.2 (((144 * x) + (12 * y)) + z), Y.2.2 + 1) else Y
theorem hm_see_yes {bi : Nat → Int32} {s : Nat} {w : Int32} {x y z : Int32} {Y : HF} (h : hm_new bi s w Y x y z = true) : hm_see bi s w x y z Y = (upd Y.1 ((12 * x) + y).toNatClampNeg (Y.1 ((12 * x) + y).toNatClampNeg ||| ((1 : Int32) <<< (z &&& 31))), upd Y.2.1 Y.2.2 (((144 * x) + (12 * y)) + z), Y.2.2 + 1) := if_pos h
theorem hm_see_no {bi : Nat → Int32} {s : Nat} {w : Int32} {x y z : Int32} {Y : HF} (h : hm_new bi s w Y x y z = false) : hm_see bi s w x y z Y = Y := by
  unfold hm_see; rw [h]; rfl
theorem hx_bfit (b : Bool) : fits .boolean (.int (hx_b b)) = true := by cases b <;> rfl
def hm_bd (e : Int32) (b : Bool) : Bool := b || ((decide (e / 144 = 0) || decide (e / 144 = 11)) || ((decide (e / 12 - e / 12 / 12 * 12 = 0) || decide (e / 12 - e / 12 / 12 * 12 = 11)) || (decide (e - e / 12 * 12 = 0) || decide (e - e / 12 * 12 = 11))))
def hm_one (bi : Nat → Int32) (s : Nat) (w : Int32) (Y : HF) : HF :=
  hm_see bi s w (Y.2.1 Y.2.2 / 144) (Y.2.1 Y.2.2 / 12 - Y.2.1 Y.2.2 / 12 / 12 * 12) ((Y.2.1 Y.2.2 - Y.2.1 Y.2.2 / 12 * 12) + 1)
  (hm_see bi s w (Y.2.1 Y.2.2 / 144) (Y.2.1 Y.2.2 / 12 - Y.2.1 Y.2.2 / 12 / 12 * 12) ((Y.2.1 Y.2.2 - Y.2.1 Y.2.2 / 12 * 12) - 1)
  (hm_see bi s w (Y.2.1 Y.2.2 / 144) ((Y.2.1 Y.2.2 / 12 - Y.2.1 Y.2.2 / 12 / 12 * 12) + 1) (Y.2.1 Y.2.2 - Y.2.1 Y.2.2 / 12 * 12)
  (hm_see bi s w (Y.2.1 Y.2.2 / 144) ((Y.2.1 Y.2.2 / 12 - Y.2.1 Y.2.2 / 12 / 12 * 12) - 1) (Y.2.1 Y.2.2 - Y.2.1 Y.2.2 / 12 * 12)
  (hm_see bi s w ((Y.2.1 Y.2.2 / 144) + 1) (Y.2.1 Y.2.2 / 12 - Y.2.1 Y.2.2 / 12 / 12 * 12) (Y.2.1 Y.2.2 - Y.2.1 Y.2.2 / 12 * 12)
  (hm_see bi s w ((Y.2.1 Y.2.2 / 144) - 1) (Y.2.1 Y.2.2 / 12 - Y.2.1 Y.2.2 / 12 / 12 * 12) (Y.2.1 Y.2.2 - Y.2.1 Y.2.2 / 12 * 12) Y)))))
def hm_spr (bi : Nat → Int32) (s : Nat) (w : Int32) : Nat → HF × Bool → HF × Bool
  | 0, Z => Z
  | N + 1, Z => if Z.1.2.2 = 0 then Z else hm_spr bi s w N (hm_one bi s w (Z.1.1, Z.1.2.1, Z.1.2.2 - 1), hm_bd (Z.1.2.1 (Z.1.2.2 - 1)) Z.2)
theorem hm_spr_0 {bi : Nat → Int32} {s : Nat} {w : Int32} {N : Nat} {S P : Nat → Int32} {b : Bool} : hm_spr bi s w (N + 1) ((S, P, 0), b) = ((S, P, 0), b) := rfl
theorem hm_spr_s {bi : Nat → Int32} {s : Nat} {w : Int32} {N n : Nat} {S P : Nat → Int32} {b : Bool} : hm_spr bi s w (N + 1) ((S, P, n + 1), b) = hm_spr bi s w N (hm_one bi s w (S, P, n), hm_bd (P n) b) := rfl
def hm_set1 (bi : Nat → Int32) (s : Nat) (w : Int32) (k : Nat) (Z : (HF × Bool) × Int32) : (HF × Bool) × Int32 :=
  if 0 < (hm_see bi s w (nI (k / 144)) (nI ((k / 12) % 12)) (nI (k % 12)) (Z.1.1.1, Z.1.1.2.1, 0)).2.2 then
    (hm_spr bi s w 5185 (hm_see bi s w (nI (k / 144)) (nI ((k / 12) % 12)) (nI (k % 12)) (Z.1.1.1, Z.1.1.2.1, 0), false), Z.2 + (if w = 0 ∧ (hm_spr bi s w 5185 (hm_see bi s w (nI (k / 144)) (nI ((k / 12) % 12)) (nI (k % 12)) (Z.1.1.1, Z.1.1.2.1, 0), false)).2 = true then 0 else 1))
  else ((hm_see bi s w (nI (k / 144)) (nI ((k / 12) % 12)) (nI (k % 12)) (Z.1.1.1, Z.1.1.2.1, 0), Z.1.2), Z.2)
def hm_sets (bi : Nat → Int32) (s : Nat) (w : Int32) (Y : HF) (b : Bool) : (HF × Bool) × Int32 := hx_it (hm_set1 bi s w) 1728 (((hx_it (fun k F => upd F k 0) 144 Y.1, Y.2.1, Y.2.2), b), 0)
def bt (x : Int32) (i : Nat) : Bool := x.toBitVec.getLsbD i
theorem b_ext {x y : Int32} (h : ∀ i, i < 32 → bt x i = bt y i) : x = y := Int32.toBitVec_inj.mp (BitVec.eq_of_getLsbD_eq (fun i hi => h i hi))
theorem b_or (x y : Int32) (i : Nat) : bt (x ||| y) i = (bt x i || bt y i) := by unfold bt; rw [Int32.toBitVec_or, BitVec.getLsbD_or]
theorem b_and (x y : Int32) (i : Nat) : bt (x &&& y) i = (bt x i && bt y i) := by unfold bt; rw [Int32.toBitVec_and, BitVec.getLsbD_and]
theorem b_xor (x y : Int32) (i : Nat) : bt (x ^^^ y) i = (bt x i ^^ bt y i) := by unfold bt; rw [Int32.toBitVec_xor, BitVec.getLsbD_xor]
theorem b_big {x : Int32} {i : Nat} (h : 32 ≤ i) : bt x i = false := BitVec.getLsbD_of_ge _ _ h
theorem b_255 (i : Nat) : bt 255 i = decide (i < 8) := by
  rcases Nat.lt_or_ge i 32 with h | h
  · exact (by decide +kernel : ∀ i, i < 32 → bt 255 i = decide (i < 8)) i h
  · rw [b_big h, decide_eq_false (by omega)]
theorem b_65535 (i : Nat) : bt 65535 i = decide (i < 16) := by
  rcases Nat.lt_or_ge i 32 with h | h
  · exact (by decide +kernel : ∀ i, i < 32 → bt 65535 i = decide (i < 16)) i h
  · rw [b_big h, decide_eq_false (by omega)]
theorem b_m1 : ∀ i, i < 32 → bt (-1) i = true := by decide +kernel
theorem b_0 (i : Nat) : bt 0 i = false := BitVec.getLsbD_zero
theorem s_l : ∀ n, n < 32 → ((nI n &&& 31).toBitVec.smod 32).toNat = n := by decide +kernel
theorem s_u : ∀ n, n < 32 → (((nI n).toUInt32 &&& Int32.toUInt32 31).toBitVec % 32).toNat = n := by decide +kernel
theorem b_shl (n : Nat) (hn : n < 32) (x : Int32) {i : Nat} (hi : i < 32) : bt (x <<< (nI n &&& 31)) i = (decide (n ≤ i) && bt x (i - n)) := by
  unfold bt
  rw [Int32.toBitVec_shiftLeft]
  show (x.toBitVec <<< ((nI n &&& 31).toBitVec.smod 32).toNat).getLsbD i = _
  rw [s_l n hn, BitVec.getLsbD_shiftLeft]
  rcases Nat.lt_or_ge i n with h | h
  · simp [h, Nat.not_le.mpr h]
  · simp [hi, h, Nat.not_lt.mpr h]
theorem b_ushr (n : Nat) (hn : n < 32) (x : Int32) (i : Nat) : bt ((x.toUInt32 >>> ((nI n).toUInt32 &&& Int32.toUInt32 31)).toInt32) i = bt x (n + i) := by
  show (x.toUInt32 >>> ((nI n).toUInt32 &&& Int32.toUInt32 31)).toBitVec.getLsbD i = x.toUInt32.toBitVec.getLsbD (n + i)
  rw [UInt32.toBitVec_shiftRight]
  show (x.toUInt32.toBitVec >>> (((nI n).toUInt32 &&& Int32.toUInt32 31).toBitVec % 32).toNat).getLsbD i = _
  rw [s_u n hn, BitVec.getLsbD_ushiftRight]
theorem b_sshr (n : Nat) (hn : n < 32) (x : Int32) {i : Nat} (hi : i < 32) : bt (x >>> (nI n &&& 31)) i = if n + i < 32 then bt x (n + i) else bt x 31 := by
  unfold bt
  rw [Int32.toBitVec_shiftRight]
  show (x.toBitVec.sshiftRight ((nI n &&& 31).toBitVec.smod 32).toNat).getLsbD i = _
  rw [s_l n hn, BitVec.getLsbD_sshiftRight, BitVec.msb_eq_getLsbD_last]
  simp [hi]
theorem hb_1 {i : Nat} (hi : i < 32) : bt 1 i = decide (i = 0) := (by decide +kernel : ∀ i, i < 32 → bt 1 i = decide (i = 0)) i hi
theorem hb_4095 {i : Nat} (hi : i < 32) : bt 4095 i = decide (i < 12) := (by decide +kernel : ∀ i, i < 32 → bt 4095 i = decide (i < 12)) i hi
theorem hb_b0 (b : Bool) : bt (hx_b b) 0 = b := by cases b <;> decide
theorem hb_bs (b : Bool) {i : Nat} (hi : i < 32) (h0 : ¬ i = 0) : bt (hx_b b) i = false := by
  cases b
  · exact b_0 i
  · show bt 1 i = false
    rw [hb_1 hi, decide_eq_false h0]
theorem hb_sel (x : Int32) {z : Nat} (hz : z < 32) : (x >>> (nI z &&& 31)) &&& 1 = hx_b (bt x z) := by
  apply b_ext
  intro i hi
  rw [b_and, b_sshr z hz x hi, hb_1 hi]
  by_cases h0 : i = 0
  · subst h0
    rw [Nat.add_zero, if_pos hz, hb_b0, decide_eq_true rfl, Bool.and_true]
  · rw [decide_eq_false h0, Bool.and_false, hb_bs _ hi h0]
theorem hb_test (x : Int32) {z : Nat} (hz : z < 32) : ((x >>> (nI z &&& 31)) &&& 1 = 1) ↔ bt x z = true := by
  rw [hb_sel x hz]
  cases bt x z <;> decide
theorem hb_pow {c i : Nat} (hc : c < 32) (hi : i < 32) : bt ((1 : Int32) <<< (nI c &&& 31)) i = decide (i = c) := by
  rw [b_shl c hc 1 hi, hb_1 (by omega)]
  rcases Nat.lt_trichotomy i c with h | h | h
  · rw [decide_eq_false (show ¬ c ≤ i by omega), decide_eq_false (show ¬ i = c by omega), Bool.false_and]
  · subst h; simp
  · rw [decide_eq_false (show ¬ i - c = 0 by omega), decide_eq_false (show ¬ i = c by omega), Bool.and_false]
def hn_sum (f : Nat → Nat) : Nat → Nat
  | 0 => 0
  | n + 1 => hn_sum f n + f n
theorem hn_sum_congr {f g : Nat → Nat} : ∀ {n : Nat}, (∀ i, i < n → f i = g i) → hn_sum f n = hn_sum g n := by
  intro n
  induction n with
  | zero => intro _; rfl
  | succ n ih =>
    intro h
    show hn_sum f n + f n = hn_sum g n + g n
    rw [ih (fun i hi => h i (by omega)), h n (by omega)]
theorem hn_sum_le {f : Nat → Nat} {c : Nat} (h : ∀ i, f i ≤ c) : ∀ n : Nat, hn_sum f n ≤ c * n := by
  intro n
  induction n with
  | zero => exact Nat.zero_le _
  | succ n ih =>
    show hn_sum f n + f n ≤ c * (n + 1)
    have := h n
    rw [Nat.mul_succ]
    omega
theorem hn_sum_one {f g : Nat → Nat} {j : Nat} : ∀ {n : Nat}, j < n → (∀ i, i ≠ j → g i = f i) → g j + 1 = f j → hn_sum g n + 1 = hn_sum f n := by
  intro n
  induction n with
  | zero => intro h; omega
  | succ n ih =>
    intro h h1 h2
    show hn_sum g n + g n + 1 = hn_sum f n + f n
    by_cases hj : j = n
    · subst hj
      have e : hn_sum g j = hn_sum f j := hn_sum_congr (fun i hi => h1 i (by omega))
      omega
    · have := ih (by omega) h1 h2
      have e := h1 n (fun q => hj q.symm)
      omega
def hm_cu (x : Int32) : Nat := hn_sum (fun z => if bt x z = true then 0 else 1) 12
def hm_un (S : Nat → Int32) : Nat := hn_sum (fun i => hm_cu (S i)) 144
def hm_ok (Y : HF) : Prop := Y.2.2 + hm_un Y.1 ≤ 1728
def hm_mu (Y : HF) : Nat := 2 * hm_un Y.1 + Y.2.2
theorem hm_cu_le (x : Int32) : hm_cu x ≤ 12 := by
  have := hn_sum_le (f := fun z => if bt x z = true then 0 else 1) (c := 1) (fun i => by split <;> omega) 12
  unfold hm_cu
  omega
theorem hm_ok0 {S P : Nat → Int32} : hm_ok (S, P, 0) := by
  have := hn_sum_le (f := fun i => hm_cu (S i)) (c := 12) (fun i => hm_cu_le _) 144
  unfold hm_ok hm_un
  simp only
  omega
theorem hm_cu_set {x : Int32} {c : Nat} (hc : c < 12) (h : bt x c = false) : hm_cu (x ||| ((1 : Int32) <<< (nI c &&& 31))) + 1 = hm_cu x := by
  have key : hn_sum (fun z => if z < 12 then (if bt (x ||| ((1 : Int32) <<< (nI c &&& 31))) z = true then 0 else 1) else 0) 12 + 1 = hn_sum (fun z => if z < 12 then (if bt x z = true then 0 else 1) else 0) 12 := by
    refine hn_sum_one (j := c) hc (fun i hi => ?_) ?_
    · by_cases h12 : i < 12
      · simp only [h12, if_true]
        rw [b_or, hb_pow (by omega) (by omega), decide_eq_false hi, Bool.or_false]
      · simp only [h12, if_false]
    · simp only [hc, if_true]
      rw [b_or, hb_pow (by omega) (by omega), h]
      simp
  have e1 : hm_cu (x ||| ((1 : Int32) <<< (nI c &&& 31))) = hn_sum (fun z => if z < 12 then (if bt (x ||| ((1 : Int32) <<< (nI c &&& 31))) z = true then 0 else 1) else 0) 12 := hn_sum_congr (fun i hi => by rw [if_pos hi])
  have e2 : hm_cu x = hn_sum (fun z => if z < 12 then (if bt x z = true then 0 else 1) else 0) 12 := hn_sum_congr (fun i hi => by rw [if_pos hi])
  rw [e1, e2]
  exact key
theorem hm_new_un {bi : Nat → Int32} {s : Nat} {w x y z : Int32} {Y : HF} (h : hm_new bi s w Y x y z = true) : hm_un (hm_see bi s w x y z Y).1 + 1 = hm_un Y.1 ∧ (hm_see bi s w x y z Y).2.2 = Y.2.2 + 1 := by
  rw [hm_see_yes h]
  refine ⟨?_, rfl⟩
  simp only [hm_new, Bool.and_eq_true, Bool.not_eq_true', decide_eq_false_iff_not, decide_eq_true_eq] at h
  obtain ⟨hx, hy, hz, -, hn⟩ := h
  obtain ⟨a, ha, rfl⟩ := hx_in_nat (n := 12) (by decide) hx
  obtain ⟨b, hb, rfl⟩ := hx_in_nat (n := 12) (by decide) hy
  obtain ⟨c, hc, rfl⟩ := hx_in_nat (n := 12) (by decide) hz
  have e : 12 * nI a + nI b = nI (12 * a + b) := by
    show nI 12 * nI a + nI b = _
    rw [pk_mul, nI_add]
  rw [e, nI_clamp (by omega)] at hn ⊢
  rw [hb_test _ (by omega)] at hn
  unfold hm_un
  refine hn_sum_one (j := 12 * a + b) (by omega) (fun i hi => ?_) ?_
  · simp only [upd, hi, if_false]
  · simp only [upd, if_true]
    exact hm_cu_set hc (Bool.eq_false_iff.mpr hn)
theorem hm_room {bi : Nat → Int32} {s : Nat} {w x y z : Int32} {Y : HF} (hok : hm_ok Y) (h : hm_new bi s w Y x y z = true) : Y.2.2 < 1728 := by
  have h1 := (hm_new_un h).1
  unfold hm_ok at hok
  omega
theorem hm_see_both {bi : Nat → Int32} {s : Nat} {w x y z : Int32} {Y : HF} : (hm_ok Y → hm_ok (hm_see bi s w x y z Y)) ∧ hm_mu (hm_see bi s w x y z Y) ≤ hm_mu Y := by
  cases h : hm_new bi s w Y x y z with
  | false => rw [hm_see_no h]; exact ⟨fun q => q, Nat.le_refl _⟩
  | true =>
    obtain ⟨h1, h2⟩ := hm_new_un h
    unfold hm_ok hm_mu
    exact ⟨fun q => by omega, by omega⟩
theorem hm_see_ok {bi : Nat → Int32} {s : Nat} {w x y z : Int32} {Y : HF} (h : hm_ok Y) : hm_ok (hm_see bi s w x y z Y) := hm_see_both.1 h
theorem hm_one_ok {bi : Nat → Int32} {s : Nat} {w : Int32} {Y : HF} (h : hm_ok Y) : hm_ok (hm_one bi s w Y) := hm_see_ok (hm_see_ok (hm_see_ok (hm_see_ok (hm_see_ok (hm_see_ok h)))))
theorem hm_one_mu {bi : Nat → Int32} {s : Nat} {w : Int32} {Y : HF} : hm_mu (hm_one bi s w Y) ≤ hm_mu Y := Nat.le_trans hm_see_both.2 (Nat.le_trans hm_see_both.2 (Nat.le_trans hm_see_both.2 (Nat.le_trans hm_see_both.2 (Nat.le_trans hm_see_both.2 hm_see_both.2))))
theorem hm_mu_lt {Y : HF} (h : hm_ok Y) : hm_mu Y < 5185 := by
  unfold hm_ok at h
  unfold hm_mu
  omega
theorem hm_lt31 {Y : HF} (h : hm_ok Y) : Y.2.2 < 2 ^ 31 := by
  unfold hm_ok at h
  omega
def hsW (g : Nat → Nat) (cI cC : ClassId) (cols : Nat → Nat → Int32) (sol oth : Nat → Nat) (out : Nat) (num : Nat → Int32) (od dn tb : Int32) (lf tk : Nat → Int32) (en : Int32) (m0 m1 m2 m3 m4 : Nat × va_E) : va_W :=
  (g 0, .inr (hsHi, [.ref (g 1), .ref (g 2), .ref (g 32), .ref (g 5), .ref (g (13 + out))])) ::
  (g 1, .inl (cC, 6, .inr (.inr (.inr (.inr (fun i => some (g (13 + sol i)))))))) ::
  (g 2, .inr (hsSi, [.ref (g 3), .ref (g 4), .int od, .int dn, .int tb])) ::
  (g 3, .inl (cI, 12, .inl num)) ::
  (g 4, .inl (cC, 12, .inr (.inr (.inr (.inr (fun i => some (g (13 + oth i)))))))) ::
  (g 5, .inr (hsFi, [.ref (g 6), .ref (g 7), .int en])) ::
  (g 6, .inl (cI, 144, .inl lf)) ::
  (g 7, .inl (cI, 1728, .inl tk)) ::
  m0 :: m1 :: m2 :: m3 :: m4 ::
  ((List.range 20).map (fun j => ((g (13 + j), .inr (hsCi, [.ref (g (33 + j))])) : Nat × va_E)) ++ (List.range 20).map (fun j => ((g (33 + j), .inl (cI, 144, .inl (cols j))) : Nat × va_E)))
def hmW (xa xb xc xd xe xf xg xh : Nat × va_E) (tl : va_W) (g : Nat → Nat) (cI : ClassId) (bi wh se pi : Nat → Int32) (dn al tp bd : Int32) : va_W :=
  xa :: xb :: xc :: xd :: xe :: xf :: xg :: xh ::
  (g 8, .inr (hsMi, [.ref (g 9), .int dn, .int al, .ref (g 10), .ref (g 11), .int tp, .ref (g 12), .int bd])) ::
  (g 9, .inl (cI, 4464, .inl bi)) ::
  (g 10, .inl (cI, 12, .inl wh)) ::
  (g 11, .inl (cI, 144, .inl se)) ::
  (g 12, .inl (cI, 1728, .inl pi)) :: tl
section HsWorld
variable {g : Nat → Nat} {cI cC : ClassId} {cols : Nat → Nat → Int32} {sol oth : Nat → Nat} {out : Nat} {num : Nat → Int32} {od dn tb : Int32} {lf tk : Nat → Int32} {en : Int32} {m0 m1 m2 m3 m4 : Nat × va_E}
theorem hs_skip13 (x0 x1 x2 x3 x4 x5 x6 x7 x8 x9 x10 x11 x12 : Nat × va_E) (L : va_W) (j : Nat) : (x0 :: x1 :: x2 :: x3 :: x4 :: x5 :: x6 :: x7 :: x8 :: x9 :: x10 :: x11 :: x12 :: L)[13 + j]? = L[j]? := by
  rw [Nat.add_comm]; rfl
theorem hs_set13 (x0 x1 x2 x3 x4 x5 x6 x7 x8 x9 x10 x11 x12 : Nat × va_E) (L : va_W) (j : Nat) (y : Nat × va_E) : (x0 :: x1 :: x2 :: x3 :: x4 :: x5 :: x6 :: x7 :: x8 :: x9 :: x10 :: x11 :: x12 :: L).set (13 + j) y = x0 :: x1 :: x2 :: x3 :: x4 :: x5 :: x6 :: x7 :: x8 :: x9 :: x10 :: x11 :: x12 :: (L.set j y) := by
  rw [Nat.add_comm]; rfl
theorem hsW_cell {j : Nat} (hj : j < 20) : (hsW g cI cC cols sol oth out num od dn tb lf tk en m0 m1 m2 m3 m4)[13 + j]? = some (g (13 + j), .inr (hsCi, [.ref (g (33 + j))])) := by
  unfold hsW
  rw [hs_skip13, List.getElem?_append_left (by simpa using hj), List.getElem?_map, List.getElem?_range hj]
  rfl
theorem hsW_arr {j : Nat} (hj : j < 20) : (hsW g cI cC cols sol oth out num od dn tb lf tk en m0 m1 m2 m3 m4)[33 + j]? = some (g (33 + j), .inl (cI, 144, .inl (cols j))) := by
  unfold hsW
  rw [show 33 + j = 13 + (20 + j) by omega, hs_skip13, List.getElem?_append_right (by simp)]
  simp only [List.length_map, List.length_range, Nat.add_sub_cancel_left]
  rw [List.getElem?_map, List.getElem?_range hj]
  simp only [Option.map_some, ← Nat.add_assoc]
theorem hsW_set {j : Nat} (hj : j < 20) (F : Nat → Int32) : (hsW g cI cC cols sol oth out num od dn tb lf tk en m0 m1 m2 m3 m4).set (33 + j) (g (33 + j), .inl (cI, 144, .inl F)) = hsW g cI cC (va_up cols j F) sol oth out num od dn tb lf tk en m0 m1 m2 m3 m4 := by
  unfold hsW
  rw [show 33 + j = 13 + (20 + j) by omega, hs_set13, List.set_append_right _ _ (by simp)]
  simp only [List.length_map, List.length_range, Nat.add_sub_cancel_left]
  have e : ((List.range 20).map (fun i => ((g (33 + i), .inl (cI, 144, .inl (cols i))) : Nat × va_E))).set j (g (13 + (20 + j)), .inl (cI, 144, .inl F)) = (List.range 20).map (fun i => ((g (33 + i), .inl (cI, 144, .inl (va_up cols j F i))) : Nat × va_E)) := by
    apply List.ext_getElem?
    intro n
    rw [List.getElem?_set]
    simp only [List.length_map, List.length_range]
    by_cases h1 : j = n
    · subst h1
      rw [if_pos rfl, if_pos hj, List.getElem?_map, List.getElem?_range hj]
      simp only [Option.map_some, va_up_self, ← Nat.add_assoc]
    · rw [if_neg h1]
      by_cases h2 : n < 20
      · rw [List.getElem?_map, List.getElem?_map, List.getElem?_range h2]
        simp only [Option.map_some]
        rw [va_up_ne _ _ (fun q => h1 q.symm)]
      · rw [List.getElem?_eq_none (by simp; omega), List.getElem?_eq_none (by simp; omega)]
  rw [e]
end HsWorld
def hsStep (g : Nat → Nat) (cI cC : ClassId) (cols : Nat → Nat → Int32) (sol oth : Nat → Nat) (out : Nat) (num : Nat → Int32) (o d : Nat) (lf tk : Nat → Int32) (en : Int32) (m0 m1 m2 m3 m4 : Nat × va_E) (i : Nat) (F : Nat → Int32) : va_W :=
  hsW g cI cC (va_up cols out F) (va_up sol i out) (va_up oth (hq_p o d) (sol i)) (oth (hq_p o d)) (upd num (hq_p o d) (nI i)) (nI (hq_o o d)) (nI (hq_d d + 1)) 0 lf tk en m0 m1 m2 m3 m4
end
section
section HsRows
variable {p : Program} {l : Launch} {e : Env} {R : Room} {s : State} {m : MethodId} {args : Array Value} {below : List Frame} {meth : Method} {c : Code} {Q : State → Prop} {nL cells slots : Nat} {D : va_G} {cl : List vw_C} {A : Nat → Prop} {H0 : Heap} {pc : Nat} {lv lv' : List (Nat × Value)} {ws ws' : va_W} {rest st : List Value} {cc : ByteArray} {own : String} {tys : List (ClassId × FieldType)}
def hsNw (U : State) : Prop := ((∀ q ∈ hsNF, va_Nw (.fieldLinkNest q.1 q.2.1 q.2.2.1 q.2.2.2.1 q.2.2.2.2.1 q.2.2.2.2.2) U) ∧ ∀ q ∈ hsNM, va_Nw (.methodLinkNest q.1 q.2.1 q.2.2.1 q.2.2.2) U) ∧ va_AO "HewnSolids$Cells" U
theorem hsNw.warm {U : State} (hW : s.WarmedH U.vm) (h : hsNw s) : hsNw U := ⟨⟨fun q hq => va_Nw.warmF hW (h.1.1 q hq), fun q hq => va_Nw.warmM hW (h.1.2 q hq)⟩, va_AO.moved hW.alike h.2⟩
theorem hsNw.same {U : State} (hv : s.vm = U.vm) (h : hsNw s) : hsNw U := ⟨⟨fun q hq => va_Nw.same rfl hv (h.1.1 q hq), fun q hq => va_Nw.same rfl hv (h.1.2 q hq)⟩, va_AO.moved (hv ▸ Vm.Alike.refl s.vm) h.2⟩
def hsV (p : Program) (l : Launch) (e : Env) (R : Room) (s : State) (m : MethodId) (args : Array Value) (below : List Frame) (meth : Method) (c : Code) (Q : State → Prop) (nL : Nat) (D : va_G) (cl : List vw_C) (A : Nat → Prop) (H0 : Heap) (cells slots : Nat) (pc : Nat) (lv : List (Nat × Value)) (ws : va_W) (st : List Value) : Prop :=
  ∀ (H : Heap) (locs : List Loc) (ls : Array Slot), lv_has ls nL lv → va_P D cl ws H → va_D A ws → va_S A H0 H locs → W p l e R s m args below meth c H locs cells slots Q (F0 m pc ls st)
def hsX (p : Program) (m : MethodId) (c : Code) (cc : ByteArray) (nL : Nat) (s : State) (args : Array Value) (own : String) (D : va_G) (cl : List vw_C) (tys : List (ClassId × FieldType)) (A : Nat → Prop) (H0 : Heap) : Prop :=
  CallFix p m c cc nL s args hsAll own ∧ va_K D cl tys s ∧ (∀ q : Nat, H0.size ≤ q → A q) ∧ hsNw s
def hsB (D : va_G) (cl : List vw_C) (tys : List (ClassId × FieldType)) (A : Nat → Prop) (w : va_W) (t : State) : Prop := va_P D cl w t.heap ∧ va_K D cl tys t ∧ va_D A w
def hsP (D : va_G) (cl : List vw_C) (tys : List (ClassId × FieldType)) (av : List Value) (ws : va_W) (sz : Nat) : Array Value → State → Prop := va_Pc av (fun U => U.heap.size = sz ∧ va_P D cl ws U.heap ∧ va_K D cl tys U ∧ va_D (fun _ => True) ws ∧ hsNw U)
def hsI (l : Launch) (y : MethodName) (wds : List Cond) (rm : Room) (D : va_G) (cl : List vw_C) (tys : List (ClassId × FieldType)) (av : List Value) (ws : va_W) (post : Int32 → va_W → Prop) : Prop :=
  ∀ sz : Nat, Met l y wds rm (hsP D cl tys av ws sz) (va_Qi post (hsB D cl tys (va_A ws sz)) (va_A ws sz)) 0 0 (va_A ws sz)
def hsN (l : Launch) (y : MethodName) (wds : List Cond) (rm : Room) (D : va_G) (cl : List vw_C) (tys : List (ClassId × FieldType)) (av : List Value) (ws : va_W) (post : va_W → Prop) : Prop :=
  ∀ sz : Nat, Met l y wds rm (hsP D cl tys av ws sz) (va_Qv post (hsB D cl tys (va_A ws sz)) (va_A ws sz)) 0 0 (va_A ws sz)
def hsQ (l : Launch) (y : MethodName) (wds : List Cond) (rm : Room) (D : va_G) (cl : List vw_C) (tys : List (ClassId × FieldType)) (av : List Value) (ws : va_W) (post : Nat → va_W → Prop) : Prop :=
  ∀ sz : Nat, Met l y wds rm (hsP D cl tys av ws sz) (va_Qr (fun _ : va_W => True) (fun w a t => post a w ∧ hsB D cl tys (va_A ws sz) w t) (va_A ws sz)) 0 0 (va_A ws sz)
theorem hs_lv (hl : lv = lv') (k : hsV p l e R s m args below meth c Q nL D cl A H0 cells slots (pc) lv' ws (rest)) : hsV p l e R s m args below meth c Q nL D cl A H0 cells slots (pc) lv ws (rest) := hl ▸ k
theorem hs_ws (hl : ws = ws') (k : hsV p l e R s m args below meth c Q nL D cl A H0 cells slots (pc) lv ws' (rest)) : hsV p l e R s m args below meth c Q nL D cl A H0 cells slots (pc) lv ws (rest) := hl ▸ k
theorem hs_st (hl : st = rest) (k : hsV p l e R s m args below meth c Q nL D cl A H0 cells slots (pc) lv ws (rest)) : hsV p l e R s m args below meth c Q nL D cl A H0 cells slots (pc) lv ws (st) := hl ▸ k
theorem hs_pick (ks : List Nat) (hl : lv_pick lv ks = lv') (k : hsV p l e R s m args below meth c Q nL D cl A H0 cells slots (pc) lv' ws (rest)) : hsV p l e R s m args below meth c Q nL D cl A H0 cells slots (pc) lv ws (rest) := fun H locs ls hl0 hP hD hS => k H locs ls (lv_sub hl0 ks hl) hP hD hS
theorem hs_top {x y : Int32} (hl : x = y) (k : hsV p l e R s m args below meth c Q nL D cl A H0 cells slots (pc) lv ws (.int y :: rest)) : hsV p l e R s m args below meth c Q nL D cl A H0 cells slots (pc) lv ws (.int x :: rest) := hl ▸ k
theorem hv_iconst (h : hsX p m c cc nL s args own D cl tys A H0) {n : Int} (v : Int32) (hdg : decode cc pc = .ok (.iconst n, 1)) (hv : Int32.ofInt n = v) (k : hsV p l e R s m args below meth c Q nL D cl A H0 cells slots (pc + 1) lv ws (.int v :: rest)) : hsV p l e R s m args below meth c Q nL D cl A H0 cells slots (pc) lv ws (rest) := fun H locs ls hl hP hD hS => lv_iconst h.1.1 h.1.2.1 hdg hv (k H locs ls hl hP hD hS)
theorem hv_bipush (h : hsX p m c cc nL s args own D cl tys A H0) {n : Int} (v : Int32) (hdg : decode cc pc = .ok (.bipush n, 2)) (hv : (Int8.ofInt n).toInt32 = v) (k : hsV p l e R s m args below meth c Q nL D cl A H0 cells slots (pc + 2) lv ws (.int v :: rest)) : hsV p l e R s m args below meth c Q nL D cl A H0 cells slots (pc) lv ws (rest) := fun H locs ls hl hP hD hS => lv_bipush h.1.1 h.1.2.1 hdg hv (k H locs ls hl hP hD hS)
theorem hv_sipush (h : hsX p m c cc nL s args own D cl tys A H0) {n : Int} (v : Int32) (hdg : decode cc pc = .ok (.sipush n, 3)) (hv : (Int16.ofInt n).toInt32 = v) (k : hsV p l e R s m args below meth c Q nL D cl A H0 cells slots (pc + 3) lv ws (.int v :: rest)) : hsV p l e R s m args below meth c Q nL D cl A H0 cells slots (pc) lv ws (rest) := fun H locs ls hl hP hD hS => lv_sipush h.1.1 h.1.2.1 hdg hv (k H locs ls hl hP hD hS)
theorem hv_ldcw (h : hsX p m c cc nL s args own D cl tys A H0) {index : Nat} (v : Int32) (hcn : Cond.constant own index v ∈ hsAll) (hdg : decode cc pc = .ok (.ldc_w index, 3)) (k : hsV p l e R s m args below meth c Q nL D cl A H0 cells slots (pc + 3) lv ws (.int v :: rest)) : hsV p l e R s m args below meth c Q nL D cl A H0 cells slots (pc) lv ws (rest) := fun H locs ls hl hP hD hS => lv_ldcw h.1.1 h.1.2.1 h.1.2.2.2.1 (h.1.2.2.2.2 _ hcn) hdg (k H locs ls hl hP hD hS)
theorem hv_ldc (h : hsX p m c cc nL s args own D cl tys A H0) {index : Nat} (v : Int32) (hcn : Cond.constant own index v ∈ hsAll) (hdg : decode cc pc = .ok (.ldc index, 2)) (k : hsV p l e R s m args below meth c Q nL D cl A H0 cells slots (pc + 2) lv ws (.int v :: rest)) : hsV p l e R s m args below meth c Q nL D cl A H0 cells slots (pc) lv ws (rest) := fun H locs ls hl hP hD hS => lv_ldc h.1.1 h.1.2.1 h.1.2.2.2.1 (h.1.2.2.2.2 _ hcn) hdg (k H locs ls hl hP hD hS)
theorem hv_iload_n (h : hsX p m c cc nL s args own D cl tys A H0) {kk : Fin 4} {i : Nat} {x : Int32} (hdg : decode cc pc = .ok (.iload_n kk, 1)) (j : Nat) (hk : lv[j]? = some (i, .int x)) (hi : (kk : Nat) = i) (k : hsV p l e R s m args below meth c Q nL D cl A H0 cells slots (pc + 1) lv ws (.int x :: rest)) : hsV p l e R s m args below meth c Q nL D cl A H0 cells slots (pc) lv ws (rest) := fun H locs ls hl hP hD hS => lv_iload_n h.1.1 h.1.2.1 hdg hi (lv_at hl j hk) (k H locs ls hl hP hD hS)
theorem hv_iload (h : hsX p m c cc nL s args own D cl tys A H0) {i : Nat} {x : Int32} (hdg : decode cc pc = .ok (.iload i, 2)) (j : Nat) (hk : lv[j]? = some (i, .int x)) (k : hsV p l e R s m args below meth c Q nL D cl A H0 cells slots (pc + 2) lv ws (.int x :: rest)) : hsV p l e R s m args below meth c Q nL D cl A H0 cells slots (pc) lv ws (rest) := fun H locs ls hl hP hD hS => lv_iload h.1.1 h.1.2.1 hdg (lv_at hl j hk) (k H locs ls hl hP hD hS)
theorem hv_aload_n (h : hsX p m c cc nL s args own D cl tys A H0) {kk : Fin 4} {i : Nat} {x : Nat} (hdg : decode cc pc = .ok (.aload_n kk, 1)) (j : Nat) (hk : lv[j]? = some (i, .ref x)) (hi : (kk : Nat) = i) (k : hsV p l e R s m args below meth c Q nL D cl A H0 cells slots (pc + 1) lv ws (.ref x :: rest)) : hsV p l e R s m args below meth c Q nL D cl A H0 cells slots (pc) lv ws (rest) := fun H locs ls hl hP hD hS => lv_aload_n h.1.1 h.1.2.1 hdg hi (lv_at hl j hk) (k H locs ls hl hP hD hS)
theorem hv_aload (h : hsX p m c cc nL s args own D cl tys A H0) {i : Nat} {x : Nat} (hdg : decode cc pc = .ok (.aload i, 2)) (j : Nat) (hk : lv[j]? = some (i, .ref x)) (k : hsV p l e R s m args below meth c Q nL D cl A H0 cells slots (pc + 2) lv ws (.ref x :: rest)) : hsV p l e R s m args below meth c Q nL D cl A H0 cells slots (pc) lv ws (rest) := fun H locs ls hl hP hD hS => lv_aload h.1.1 h.1.2.1 hdg (lv_at hl j hk) (k H locs ls hl hP hD hS)
theorem hv_istore_n (h : hsX p m c cc nL s args own D cl tys A H0) {kk : Fin 4} {i : Nat} {x : Int32} (lv' : List (Nat × Value)) (hdg : decode cc pc = .ok (.istore_n kk, 1)) (hi : (kk : Nat) = i) (hn : i < nL) (hv : (i, Value.int x) :: lv.filter (fun q => !(q.1 == i) && !(q.1 + 1 == i && q.2.category == 2)) = lv') (k : hsV p l e R s m args below meth c Q nL D cl A H0 cells slots (pc + 1) lv' ws (rest)) : hsV p l e R s m args below meth c Q nL D cl A H0 cells slots (pc) lv ws (.int x :: rest) := fun H locs ls hl hP hD hS => lv_istore_n h.1.1 h.1.2.1 hdg hi hl hn hv (fun ls' hl' => k H locs ls' hl' hP hD hS)
theorem hv_istore (h : hsX p m c cc nL s args own D cl tys A H0) {i : Nat} {x : Int32} (lv' : List (Nat × Value)) (hdg : decode cc pc = .ok (.istore i, 2)) (hn : i < nL) (hv : (i, Value.int x) :: lv.filter (fun q => !(q.1 == i) && !(q.1 + 1 == i && q.2.category == 2)) = lv') (k : hsV p l e R s m args below meth c Q nL D cl A H0 cells slots (pc + 2) lv' ws (rest)) : hsV p l e R s m args below meth c Q nL D cl A H0 cells slots (pc) lv ws (.int x :: rest) := fun H locs ls hl hP hD hS => lv_istore h.1.1 h.1.2.1 hdg hl hn hv (fun ls' hl' => k H locs ls' hl' hP hD hS)
theorem hv_astore_n (h : hsX p m c cc nL s args own D cl tys A H0) {kk : Fin 4} {i : Nat} {x : Nat} (lv' : List (Nat × Value)) (hdg : decode cc pc = .ok (.astore_n kk, 1)) (hi : (kk : Nat) = i) (hn : i < nL) (hv : (i, Value.ref x) :: lv.filter (fun q => !(q.1 == i) && !(q.1 + 1 == i && q.2.category == 2)) = lv') (k : hsV p l e R s m args below meth c Q nL D cl A H0 cells slots (pc + 1) lv' ws (rest)) : hsV p l e R s m args below meth c Q nL D cl A H0 cells slots (pc) lv ws (.ref x :: rest) := fun H locs ls hl hP hD hS => lv_astore_n h.1.1 h.1.2.1 hdg hi hl hn hv (fun ls' hl' => k H locs ls' hl' hP hD hS)
theorem hv_astore (h : hsX p m c cc nL s args own D cl tys A H0) {i : Nat} {x : Nat} (lv' : List (Nat × Value)) (hdg : decode cc pc = .ok (.astore i, 2)) (hn : i < nL) (hv : (i, Value.ref x) :: lv.filter (fun q => !(q.1 == i) && !(q.1 + 1 == i && q.2.category == 2)) = lv') (k : hsV p l e R s m args below meth c Q nL D cl A H0 cells slots (pc + 2) lv' ws (rest)) : hsV p l e R s m args below meth c Q nL D cl A H0 cells slots (pc) lv ws (.ref x :: rest) := fun H locs ls hl hP hD hS => lv_astore h.1.1 h.1.2.1 hdg hl hn hv (fun ls' hl' => k H locs ls' hl' hP hD hS)
theorem hv_iinc (h : hsX p m c cc nL s args own D cl tys A H0) {i : Nat} {n : Int} {x : Int32} (v : Int32) (lv' : List (Nat × Value)) (hdg : decode cc pc = .ok (.iinc i n, 3)) (j : Nat) (hk : lv[j]? = some (i, .int x)) (hv : x + Int32.ofInt n = v) (hn : i < nL) (hw : (i, Value.int v) :: lv.filter (fun q => !(q.1 == i) && !(q.1 + 1 == i && q.2.category == 2)) = lv') (k : hsV p l e R s m args below meth c Q nL D cl A H0 cells slots (pc + 3) lv' ws (rest)) : hsV p l e R s m args below meth c Q nL D cl A H0 cells slots (pc) lv ws (rest) := fun H locs ls hl hP hD hS => lv_iinc h.1.1 h.1.2.1 hdg hl hk hv hn hw (fun ls' hl' => k H locs ls' hl' hP hD hS)
theorem hv_iadd (h : hsX p m c cc nL s args own D cl tys A H0) {x y : Int32} (hdg : decode cc pc = .ok (.iadd, 1)) (k : hsV p l e R s m args below meth c Q nL D cl A H0 cells slots (pc + 1) lv ws (.int (x + y) :: rest)) : hsV p l e R s m args below meth c Q nL D cl A H0 cells slots (pc) lv ws (.int y :: .int x :: rest) := fun H locs ls hl hP hD hS => lv_iadd h.1.1 h.1.2.1 hdg (k H locs ls hl hP hD hS)
theorem hw_iadd (h : hsX p m c cc nL s args own D cl tys A H0) {x y : Int32} (v : Int32) (hdg : decode cc pc = .ok (.iadd, 1)) (hv : x + y = v) (k : hsV p l e R s m args below meth c Q nL D cl A H0 cells slots (pc + 1) lv ws (.int v :: rest)) : hsV p l e R s m args below meth c Q nL D cl A H0 cells slots (pc) lv ws (.int y :: .int x :: rest) := fun H locs ls hl hP hD hS => lv_iadd h.1.1 h.1.2.1 hdg (by rw [hv]; exact (k H locs ls hl hP hD hS))
theorem hv_isub (h : hsX p m c cc nL s args own D cl tys A H0) {x y : Int32} (hdg : decode cc pc = .ok (.isub, 1)) (k : hsV p l e R s m args below meth c Q nL D cl A H0 cells slots (pc + 1) lv ws (.int (x - y) :: rest)) : hsV p l e R s m args below meth c Q nL D cl A H0 cells slots (pc) lv ws (.int y :: .int x :: rest) := fun H locs ls hl hP hD hS => lv_isub h.1.1 h.1.2.1 hdg (k H locs ls hl hP hD hS)
theorem hw_isub (h : hsX p m c cc nL s args own D cl tys A H0) {x y : Int32} (v : Int32) (hdg : decode cc pc = .ok (.isub, 1)) (hv : x - y = v) (k : hsV p l e R s m args below meth c Q nL D cl A H0 cells slots (pc + 1) lv ws (.int v :: rest)) : hsV p l e R s m args below meth c Q nL D cl A H0 cells slots (pc) lv ws (.int y :: .int x :: rest) := fun H locs ls hl hP hD hS => lv_isub h.1.1 h.1.2.1 hdg (by rw [hv]; exact (k H locs ls hl hP hD hS))
theorem hv_imul (h : hsX p m c cc nL s args own D cl tys A H0) {x y : Int32} (hdg : decode cc pc = .ok (.imul, 1)) (k : hsV p l e R s m args below meth c Q nL D cl A H0 cells slots (pc + 1) lv ws (.int (x * y) :: rest)) : hsV p l e R s m args below meth c Q nL D cl A H0 cells slots (pc) lv ws (.int y :: .int x :: rest) := fun H locs ls hl hP hD hS => lv_imul h.1.1 h.1.2.1 hdg (k H locs ls hl hP hD hS)
theorem hw_imul (h : hsX p m c cc nL s args own D cl tys A H0) {x y : Int32} (v : Int32) (hdg : decode cc pc = .ok (.imul, 1)) (hv : x * y = v) (k : hsV p l e R s m args below meth c Q nL D cl A H0 cells slots (pc + 1) lv ws (.int v :: rest)) : hsV p l e R s m args below meth c Q nL D cl A H0 cells slots (pc) lv ws (.int y :: .int x :: rest) := fun H locs ls hl hP hD hS => lv_imul h.1.1 h.1.2.1 hdg (by rw [hv]; exact (k H locs ls hl hP hD hS))
theorem hv_iand (h : hsX p m c cc nL s args own D cl tys A H0) {x y : Int32} (hdg : decode cc pc = .ok (.iand, 1)) (k : hsV p l e R s m args below meth c Q nL D cl A H0 cells slots (pc + 1) lv ws (.int (x &&& y) :: rest)) : hsV p l e R s m args below meth c Q nL D cl A H0 cells slots (pc) lv ws (.int y :: .int x :: rest) := fun H locs ls hl hP hD hS => lv_iand h.1.1 h.1.2.1 hdg (k H locs ls hl hP hD hS)
theorem hw_iand (h : hsX p m c cc nL s args own D cl tys A H0) {x y : Int32} (v : Int32) (hdg : decode cc pc = .ok (.iand, 1)) (hv : x &&& y = v) (k : hsV p l e R s m args below meth c Q nL D cl A H0 cells slots (pc + 1) lv ws (.int v :: rest)) : hsV p l e R s m args below meth c Q nL D cl A H0 cells slots (pc) lv ws (.int y :: .int x :: rest) := fun H locs ls hl hP hD hS => lv_iand h.1.1 h.1.2.1 hdg (by rw [hv]; exact (k H locs ls hl hP hD hS))
theorem hv_ior (h : hsX p m c cc nL s args own D cl tys A H0) {x y : Int32} (hdg : decode cc pc = .ok (.ior, 1)) (k : hsV p l e R s m args below meth c Q nL D cl A H0 cells slots (pc + 1) lv ws (.int (x ||| y) :: rest)) : hsV p l e R s m args below meth c Q nL D cl A H0 cells slots (pc) lv ws (.int y :: .int x :: rest) := fun H locs ls hl hP hD hS => lv_ior h.1.1 h.1.2.1 hdg (k H locs ls hl hP hD hS)
theorem hw_ior (h : hsX p m c cc nL s args own D cl tys A H0) {x y : Int32} (v : Int32) (hdg : decode cc pc = .ok (.ior, 1)) (hv : x ||| y = v) (k : hsV p l e R s m args below meth c Q nL D cl A H0 cells slots (pc + 1) lv ws (.int v :: rest)) : hsV p l e R s m args below meth c Q nL D cl A H0 cells slots (pc) lv ws (.int y :: .int x :: rest) := fun H locs ls hl hP hD hS => lv_ior h.1.1 h.1.2.1 hdg (by rw [hv]; exact (k H locs ls hl hP hD hS))
theorem hv_ixor (h : hsX p m c cc nL s args own D cl tys A H0) {x y : Int32} (hdg : decode cc pc = .ok (.ixor, 1)) (k : hsV p l e R s m args below meth c Q nL D cl A H0 cells slots (pc + 1) lv ws (.int (x ^^^ y) :: rest)) : hsV p l e R s m args below meth c Q nL D cl A H0 cells slots (pc) lv ws (.int y :: .int x :: rest) := fun H locs ls hl hP hD hS => lv_ixor h.1.1 h.1.2.1 hdg (k H locs ls hl hP hD hS)
theorem hw_ixor (h : hsX p m c cc nL s args own D cl tys A H0) {x y : Int32} (v : Int32) (hdg : decode cc pc = .ok (.ixor, 1)) (hv : x ^^^ y = v) (k : hsV p l e R s m args below meth c Q nL D cl A H0 cells slots (pc + 1) lv ws (.int v :: rest)) : hsV p l e R s m args below meth c Q nL D cl A H0 cells slots (pc) lv ws (.int y :: .int x :: rest) := fun H locs ls hl hP hD hS => lv_ixor h.1.1 h.1.2.1 hdg (by rw [hv]; exact (k H locs ls hl hP hD hS))
theorem hv_ishl (h : hsX p m c cc nL s args own D cl tys A H0) {x y : Int32} (hdg : decode cc pc = .ok (.ishl, 1)) (k : hsV p l e R s m args below meth c Q nL D cl A H0 cells slots (pc + 1) lv ws (.int (x <<< (y &&& 31)) :: rest)) : hsV p l e R s m args below meth c Q nL D cl A H0 cells slots (pc) lv ws (.int y :: .int x :: rest) := fun H locs ls hl hP hD hS => lv_ishl h.1.1 h.1.2.1 hdg (k H locs ls hl hP hD hS)
theorem hw_ishl (h : hsX p m c cc nL s args own D cl tys A H0) {x y : Int32} (v : Int32) (hdg : decode cc pc = .ok (.ishl, 1)) (hv : x <<< (y &&& 31) = v) (k : hsV p l e R s m args below meth c Q nL D cl A H0 cells slots (pc + 1) lv ws (.int v :: rest)) : hsV p l e R s m args below meth c Q nL D cl A H0 cells slots (pc) lv ws (.int y :: .int x :: rest) := fun H locs ls hl hP hD hS => lv_ishl h.1.1 h.1.2.1 hdg (by rw [hv]; exact (k H locs ls hl hP hD hS))
theorem hv_ishr (h : hsX p m c cc nL s args own D cl tys A H0) {x y : Int32} (hdg : decode cc pc = .ok (.ishr, 1)) (k : hsV p l e R s m args below meth c Q nL D cl A H0 cells slots (pc + 1) lv ws (.int (x >>> (y &&& 31)) :: rest)) : hsV p l e R s m args below meth c Q nL D cl A H0 cells slots (pc) lv ws (.int y :: .int x :: rest) := fun H locs ls hl hP hD hS => lv_ishr h.1.1 h.1.2.1 hdg (k H locs ls hl hP hD hS)
theorem hw_ishr (h : hsX p m c cc nL s args own D cl tys A H0) {x y : Int32} (v : Int32) (hdg : decode cc pc = .ok (.ishr, 1)) (hv : x >>> (y &&& 31) = v) (k : hsV p l e R s m args below meth c Q nL D cl A H0 cells slots (pc + 1) lv ws (.int v :: rest)) : hsV p l e R s m args below meth c Q nL D cl A H0 cells slots (pc) lv ws (.int y :: .int x :: rest) := fun H locs ls hl hP hD hS => lv_ishr h.1.1 h.1.2.1 hdg (by rw [hv]; exact (k H locs ls hl hP hD hS))
theorem hv_idiv (h : hsX p m c cc nL s args own D cl tys A H0) {x y : Int32} (hdg : decode cc pc = .ok (.idiv, 1)) (hne : ¬ y = 0) (k : hsV p l e R s m args below meth c Q nL D cl A H0 cells slots (pc + 1) lv ws (.int (x / y) :: rest)) : hsV p l e R s m args below meth c Q nL D cl A H0 cells slots (pc) lv ws (.int y :: .int x :: rest) := fun H locs ls hl hP hD hS => lv_idiv h.1.1 h.1.2.1 hdg hne (k H locs ls hl hP hD hS)
theorem hw_idiv (h : hsX p m c cc nL s args own D cl tys A H0) {x y : Int32} (v : Int32) (hdg : decode cc pc = .ok (.idiv, 1)) (hne : ¬ y = 0) (hv : x / y = v) (k : hsV p l e R s m args below meth c Q nL D cl A H0 cells slots (pc + 1) lv ws (.int v :: rest)) : hsV p l e R s m args below meth c Q nL D cl A H0 cells slots (pc) lv ws (.int y :: .int x :: rest) := fun H locs ls hl hP hD hS => lv_idiv h.1.1 h.1.2.1 hdg hne (by rw [hv]; exact (k H locs ls hl hP hD hS))
theorem hv_irem (h : hsX p m c cc nL s args own D cl tys A H0) {x y : Int32} (hdg : decode cc pc = .ok (.irem, 1)) (hne : ¬ y = 0) (k : hsV p l e R s m args below meth c Q nL D cl A H0 cells slots (pc + 1) lv ws (.int (x - x / y * y) :: rest)) : hsV p l e R s m args below meth c Q nL D cl A H0 cells slots (pc) lv ws (.int y :: .int x :: rest) := fun H locs ls hl hP hD hS => lv_irem h.1.1 h.1.2.1 hdg hne (k H locs ls hl hP hD hS)
theorem hw_irem (h : hsX p m c cc nL s args own D cl tys A H0) {x y : Int32} (v : Int32) (hdg : decode cc pc = .ok (.irem, 1)) (hne : ¬ y = 0) (hv : x - x / y * y = v) (k : hsV p l e R s m args below meth c Q nL D cl A H0 cells slots (pc + 1) lv ws (.int v :: rest)) : hsV p l e R s m args below meth c Q nL D cl A H0 cells slots (pc) lv ws (.int y :: .int x :: rest) := fun H locs ls hl hP hD hS => lv_irem h.1.1 h.1.2.1 hdg hne (by rw [hv]; exact (k H locs ls hl hP hD hS))
theorem hv_ineg (h : hsX p m c cc nL s args own D cl tys A H0) {x : Int32} (hdg : decode cc pc = .ok (.ineg, 1)) (k : hsV p l e R s m args below meth c Q nL D cl A H0 cells slots (pc + 1) lv ws (.int (-x) :: rest)) : hsV p l e R s m args below meth c Q nL D cl A H0 cells slots (pc) lv ws (.int x :: rest) := fun H locs ls hl hP hD hS => lv_ineg h.1.1 h.1.2.1 hdg (k H locs ls hl hP hD hS)
theorem hv_iushr (h : hsX p m c cc nL s args own D cl tys A H0) {x y : Int32} (hdg : decode cc pc = .ok (.iushr, 1)) (k : hsV p l e R s m args below meth c Q nL D cl A H0 cells slots (pc + 1) lv ws (.int (hj_u x y) :: rest)) : hsV p l e R s m args below meth c Q nL D cl A H0 cells slots (pc) lv ws (.int y :: .int x :: rest) := fun H locs ls hl hP hD hS => lv_iushr h.1.1 h.1.2.1 hdg rfl (k H locs ls hl hP hD hS)
theorem hv_dup (h : hsX p m c cc nL s args own D cl tys A H0) {va : Value} (hdg : decode cc pc = .ok (.dup, 1)) (hva : va.category = 1) (k : hsV p l e R s m args below meth c Q nL D cl A H0 cells slots (pc + 1) lv ws (va :: va :: rest)) : hsV p l e R s m args below meth c Q nL D cl A H0 cells slots (pc) lv ws (va :: rest) := fun H locs ls hl hP hD hS => lv_dup h.1.1 h.1.2.1 hdg hva (k H locs ls hl hP hD hS)
theorem hv_pop (h : hsX p m c cc nL s args own D cl tys A H0) {va : Value} (hdg : decode cc pc = .ok (.pop, 1)) (hva : va.category = 1) (k : hsV p l e R s m args below meth c Q nL D cl A H0 cells slots (pc + 1) lv ws (rest)) : hsV p l e R s m args below meth c Q nL D cl A H0 cells slots (pc) lv ws (va :: rest) := fun H locs ls hl hP hD hS => lv_pop h.1.1 h.1.2.1 hdg hva (k H locs ls hl hP hD hS)
theorem hv_dup_x1 (h : hsX p m c cc nL s args own D cl tys A H0) {va vb : Value} (hdg : decode cc pc = .ok (.dup_x1, 1)) (hva : va.category = 1) (hvb : vb.category = 1) (k : hsV p l e R s m args below meth c Q nL D cl A H0 cells slots (pc + 1) lv ws (va :: vb :: va :: rest)) : hsV p l e R s m args below meth c Q nL D cl A H0 cells slots (pc) lv ws (va :: vb :: rest) := fun H locs ls hl hP hD hS => lv_dup_x1 h.1.1 h.1.2.1 hdg hva hvb (k H locs ls hl hP hD hS)
theorem hv_dup2 (h : hsX p m c cc nL s args own D cl tys A H0) {va vb : Value} (hdg : decode cc pc = .ok (.dup2, 1)) (hva : va.category = 1) (hvb : vb.category = 1) (k : hsV p l e R s m args below meth c Q nL D cl A H0 cells slots (pc + 1) lv ws (va :: vb :: va :: vb :: rest)) : hsV p l e R s m args below meth c Q nL D cl A H0 cells slots (pc) lv ws (va :: vb :: rest) := fun H locs ls hl hP hD hS => lv_dup2_11 h.1.1 h.1.2.1 hdg hva hvb (k H locs ls hl hP hD hS)
theorem hv_if_eq (h : hsX p m c cc nL s args own D cl tys A H0) {x : Int32} {off : Int} (tgt : Nat) (hdg : decode cc pc = .ok (.ifCond .eq off, 3)) (ht : (pc : Int) + off = (tgt : Int)) (kt : x = 0 → hsV p l e R s m args below meth c Q nL D cl A H0 cells slots (tgt) lv ws (rest)) (kf : ¬ x = 0 → hsV p l e R s m args below meth c Q nL D cl A H0 cells slots (pc + 3) lv ws (rest)) : hsV p l e R s m args below meth c Q nL D cl A H0 cells slots (pc) lv ws (.int x :: rest) := fun H locs ls hl hP hD hS => lv_if_eq h.1.1 h.1.2.1 hdg ht (fun q => kt q H locs ls hl hP hD hS) (fun q => kf q H locs ls hl hP hD hS)
theorem hv_icmp_eq (h : hsX p m c cc nL s args own D cl tys A H0) {x y : Int32} {off : Int} (tgt : Nat) (hdg : decode cc pc = .ok (.if_icmp .eq off, 3)) (ht : (pc : Int) + off = (tgt : Int)) (kt : x = y → hsV p l e R s m args below meth c Q nL D cl A H0 cells slots (tgt) lv ws (rest)) (kf : ¬ x = y → hsV p l e R s m args below meth c Q nL D cl A H0 cells slots (pc + 3) lv ws (rest)) : hsV p l e R s m args below meth c Q nL D cl A H0 cells slots (pc) lv ws (.int y :: .int x :: rest) := fun H locs ls hl hP hD hS => lv_icmp_eq h.1.1 h.1.2.1 hdg ht (fun q => kt q H locs ls hl hP hD hS) (fun q => kf q H locs ls hl hP hD hS)
theorem hv_if_ne (h : hsX p m c cc nL s args own D cl tys A H0) {x : Int32} {off : Int} (tgt : Nat) (hdg : decode cc pc = .ok (.ifCond .ne off, 3)) (ht : (pc : Int) + off = (tgt : Int)) (kt : ¬ x = 0 → hsV p l e R s m args below meth c Q nL D cl A H0 cells slots (tgt) lv ws (rest)) (kf : x = 0 → hsV p l e R s m args below meth c Q nL D cl A H0 cells slots (pc + 3) lv ws (rest)) : hsV p l e R s m args below meth c Q nL D cl A H0 cells slots (pc) lv ws (.int x :: rest) := fun H locs ls hl hP hD hS => lv_if_ne h.1.1 h.1.2.1 hdg ht (fun q => kt q H locs ls hl hP hD hS) (fun q => kf q H locs ls hl hP hD hS)
theorem hv_icmp_ne (h : hsX p m c cc nL s args own D cl tys A H0) {x y : Int32} {off : Int} (tgt : Nat) (hdg : decode cc pc = .ok (.if_icmp .ne off, 3)) (ht : (pc : Int) + off = (tgt : Int)) (kt : ¬ x = y → hsV p l e R s m args below meth c Q nL D cl A H0 cells slots (tgt) lv ws (rest)) (kf : x = y → hsV p l e R s m args below meth c Q nL D cl A H0 cells slots (pc + 3) lv ws (rest)) : hsV p l e R s m args below meth c Q nL D cl A H0 cells slots (pc) lv ws (.int y :: .int x :: rest) := fun H locs ls hl hP hD hS => lv_icmp_ne h.1.1 h.1.2.1 hdg ht (fun q => kt q H locs ls hl hP hD hS) (fun q => kf q H locs ls hl hP hD hS)
theorem hv_if_lt (h : hsX p m c cc nL s args own D cl tys A H0) {x : Int32} {off : Int} (tgt : Nat) (hdg : decode cc pc = .ok (.ifCond .lt off, 3)) (ht : (pc : Int) + off = (tgt : Int)) (kt : x < 0 → hsV p l e R s m args below meth c Q nL D cl A H0 cells slots (tgt) lv ws (rest)) (kf : ¬ x < 0 → hsV p l e R s m args below meth c Q nL D cl A H0 cells slots (pc + 3) lv ws (rest)) : hsV p l e R s m args below meth c Q nL D cl A H0 cells slots (pc) lv ws (.int x :: rest) := fun H locs ls hl hP hD hS => lv_if_lt h.1.1 h.1.2.1 hdg ht (fun q => kt q H locs ls hl hP hD hS) (fun q => kf q H locs ls hl hP hD hS)
theorem hv_icmp_lt (h : hsX p m c cc nL s args own D cl tys A H0) {x y : Int32} {off : Int} (tgt : Nat) (hdg : decode cc pc = .ok (.if_icmp .lt off, 3)) (ht : (pc : Int) + off = (tgt : Int)) (kt : x < y → hsV p l e R s m args below meth c Q nL D cl A H0 cells slots (tgt) lv ws (rest)) (kf : ¬ x < y → hsV p l e R s m args below meth c Q nL D cl A H0 cells slots (pc + 3) lv ws (rest)) : hsV p l e R s m args below meth c Q nL D cl A H0 cells slots (pc) lv ws (.int y :: .int x :: rest) := fun H locs ls hl hP hD hS => lv_icmp_lt h.1.1 h.1.2.1 hdg ht (fun q => kt q H locs ls hl hP hD hS) (fun q => kf q H locs ls hl hP hD hS)
theorem hv_if_ge (h : hsX p m c cc nL s args own D cl tys A H0) {x : Int32} {off : Int} (tgt : Nat) (hdg : decode cc pc = .ok (.ifCond .ge off, 3)) (ht : (pc : Int) + off = (tgt : Int)) (kt : 0 ≤ x → hsV p l e R s m args below meth c Q nL D cl A H0 cells slots (tgt) lv ws (rest)) (kf : ¬ 0 ≤ x → hsV p l e R s m args below meth c Q nL D cl A H0 cells slots (pc + 3) lv ws (rest)) : hsV p l e R s m args below meth c Q nL D cl A H0 cells slots (pc) lv ws (.int x :: rest) := fun H locs ls hl hP hD hS => lv_if_ge h.1.1 h.1.2.1 hdg ht (fun q => kt q H locs ls hl hP hD hS) (fun q => kf q H locs ls hl hP hD hS)
theorem hv_icmp_ge (h : hsX p m c cc nL s args own D cl tys A H0) {x y : Int32} {off : Int} (tgt : Nat) (hdg : decode cc pc = .ok (.if_icmp .ge off, 3)) (ht : (pc : Int) + off = (tgt : Int)) (kt : y ≤ x → hsV p l e R s m args below meth c Q nL D cl A H0 cells slots (tgt) lv ws (rest)) (kf : ¬ y ≤ x → hsV p l e R s m args below meth c Q nL D cl A H0 cells slots (pc + 3) lv ws (rest)) : hsV p l e R s m args below meth c Q nL D cl A H0 cells slots (pc) lv ws (.int y :: .int x :: rest) := fun H locs ls hl hP hD hS => lv_icmp_ge h.1.1 h.1.2.1 hdg ht (fun q => kt q H locs ls hl hP hD hS) (fun q => kf q H locs ls hl hP hD hS)
theorem hv_if_gt (h : hsX p m c cc nL s args own D cl tys A H0) {x : Int32} {off : Int} (tgt : Nat) (hdg : decode cc pc = .ok (.ifCond .gt off, 3)) (ht : (pc : Int) + off = (tgt : Int)) (kt : 0 < x → hsV p l e R s m args below meth c Q nL D cl A H0 cells slots (tgt) lv ws (rest)) (kf : ¬ 0 < x → hsV p l e R s m args below meth c Q nL D cl A H0 cells slots (pc + 3) lv ws (rest)) : hsV p l e R s m args below meth c Q nL D cl A H0 cells slots (pc) lv ws (.int x :: rest) := fun H locs ls hl hP hD hS => lv_if_gt h.1.1 h.1.2.1 hdg ht (fun q => kt q H locs ls hl hP hD hS) (fun q => kf q H locs ls hl hP hD hS)
theorem hv_icmp_gt (h : hsX p m c cc nL s args own D cl tys A H0) {x y : Int32} {off : Int} (tgt : Nat) (hdg : decode cc pc = .ok (.if_icmp .gt off, 3)) (ht : (pc : Int) + off = (tgt : Int)) (kt : y < x → hsV p l e R s m args below meth c Q nL D cl A H0 cells slots (tgt) lv ws (rest)) (kf : ¬ y < x → hsV p l e R s m args below meth c Q nL D cl A H0 cells slots (pc + 3) lv ws (rest)) : hsV p l e R s m args below meth c Q nL D cl A H0 cells slots (pc) lv ws (.int y :: .int x :: rest) := fun H locs ls hl hP hD hS => lv_icmp_gt h.1.1 h.1.2.1 hdg ht (fun q => kt q H locs ls hl hP hD hS) (fun q => kf q H locs ls hl hP hD hS)
theorem hv_if_le (h : hsX p m c cc nL s args own D cl tys A H0) {x : Int32} {off : Int} (tgt : Nat) (hdg : decode cc pc = .ok (.ifCond .le off, 3)) (ht : (pc : Int) + off = (tgt : Int)) (kt : x ≤ 0 → hsV p l e R s m args below meth c Q nL D cl A H0 cells slots (tgt) lv ws (rest)) (kf : ¬ x ≤ 0 → hsV p l e R s m args below meth c Q nL D cl A H0 cells slots (pc + 3) lv ws (rest)) : hsV p l e R s m args below meth c Q nL D cl A H0 cells slots (pc) lv ws (.int x :: rest) := fun H locs ls hl hP hD hS => lv_if_le h.1.1 h.1.2.1 hdg ht (fun q => kt q H locs ls hl hP hD hS) (fun q => kf q H locs ls hl hP hD hS)
theorem hv_icmp_le (h : hsX p m c cc nL s args own D cl tys A H0) {x y : Int32} {off : Int} (tgt : Nat) (hdg : decode cc pc = .ok (.if_icmp .le off, 3)) (ht : (pc : Int) + off = (tgt : Int)) (kt : x ≤ y → hsV p l e R s m args below meth c Q nL D cl A H0 cells slots (tgt) lv ws (rest)) (kf : ¬ x ≤ y → hsV p l e R s m args below meth c Q nL D cl A H0 cells slots (pc + 3) lv ws (rest)) : hsV p l e R s m args below meth c Q nL D cl A H0 cells slots (pc) lv ws (.int y :: .int x :: rest) := fun H locs ls hl hP hD hS => lv_icmp_le h.1.1 h.1.2.1 hdg ht (fun q => kt q H locs ls hl hP hD hS) (fun q => kf q H locs ls hl hP hD hS)
theorem hv_goto (h : hsX p m c cc nL s args own D cl tys A H0) {off : Int} (tgt : Nat) (hdg : decode cc pc = .ok (.goto off, 3)) (ht : (pc : Int) + off = (tgt : Int)) (k : hsV p l e R s m args below meth c Q nL D cl A H0 cells slots (tgt) lv ws (rest)) : hsV p l e R s m args below meth c Q nL D cl A H0 cells slots (pc) lv ws (rest) := fun H locs ls hl hP hD hS => lv_goto h.1.1 h.1.2.1 hdg ht (k H locs ls hl hP hD hS)
theorem hv_tableOut (h : hsX p m c cc nL s args own D cl tys A H0) {dflt lo hi : Int} {offs : Array Int} {len : Nat} {x : Int32} (tgt : Nat) (hdg : decode cc pc = .ok (.tableswitch dflt lo hi offs, len)) (hx : x.toInt < lo ∨ hi < x.toInt) (ht : (pc : Int) + dflt = (tgt : Int)) (k : hsV p l e R s m args below meth c Q nL D cl A H0 cells slots (tgt) lv ws (rest)) : hsV p l e R s m args below meth c Q nL D cl A H0 cells slots (pc) lv ws (.int x :: rest) := fun H locs ls hl hP hD hS => lv_tableOut h.1.1 h.1.2.1 hdg hx ht (k H locs ls hl hP hD hS)
theorem hv_tableIn (h : hsX p m c cc nL s args own D cl tys A H0) {dflt lo hi : Int} {offs : Array Int} {len : Nat} {x : Int32} {off : Int} (tgt : Nat) (hdg : decode cc pc = .ok (.tableswitch dflt lo hi offs, len)) (h1 : ¬ x.toInt < lo) (h2 : ¬ hi < x.toInt) (ho : offs[(x.toInt - lo).toNat]? = some off) (ht : (pc : Int) + off = (tgt : Int)) (k : hsV p l e R s m args below meth c Q nL D cl A H0 cells slots (tgt) lv ws (rest)) : hsV p l e R s m args below meth c Q nL D cl A H0 cells slots (pc) lv ws (.int x :: rest) := fun H locs ls hl hP hD hS => lv_tableIn h.1.1 h.1.2.1 hdg h1 h2 ho ht (k H locs ls hl hP hD hS)
theorem hv_get (h : hsX p m c cc nL s args own D cl tys A H0) {ref C : String} {T : u_T} {N ci index : Nat} {fs : List Value} {a : Nat} (q0 : Nat) (he : ws[q0]? = some (a, .inr (ci, fs))) (hc : cl[ci]? = some (C, T, N)) (f : Nat) (hk : f < N) (hin : ∀ w ∈ u_ws C T N, w ∈ hsAll) (hlk : Cond.fieldLink own index ref (T f).2.1 (T f).2.2.1 ∈ hsAll) (hsame : ∀ x, s.fieldFound? (T f).1 (T f).2.1 (T f).2.2.1 = some x → s.fieldFound? ref (T f).2.1 (T f).2.2.1 = some x) {v : Value} (hv : fs[f]? = some v) (hdg : decode cc pc = .ok (.getfield index, 3)) (k : hsV p l e R s m args below meth c Q nL D cl A H0 cells slots (pc + 3) lv ws (v :: rest)) : hsV p l e R s m args below meth c Q nL D cl A H0 cells slots (pc) lv ws (.ref a :: rest) := fun H locs ls hl hP hD hS => va_get h.1.1 h.1.2.1 h.1.2.2.2.2 hin h.1.2.2.2.1 h.2.1 hP q0 he hc f hk (h.1.2.2.2.2 _ hlk) hsame hv hdg (k H locs ls hl hP hD hS)
theorem hv_getN (h : hsX p m c cc nL s args own D cl tys A H0) {ref C : String} {T : u_T} {N ci index : Nat} {fs : List Value} {a : Nat} (q0 : Nat) (he : ws[q0]? = some (a, .inr (ci, fs))) (hc : cl[ci]? = some (C, T, N)) (f : Nat) (hk : f < N) (hin : ∀ w ∈ u_ws C T N, w ∈ hsAll) {host : String} (hlk : (own, index, ref, (T f).2.1, (T f).2.2.1, host) ∈ hsNF) (hsame : ∀ x, s.fieldFound? (T f).1 (T f).2.1 (T f).2.2.1 = some x → s.fieldFound? ref (T f).2.1 (T f).2.2.1 = some x) {v : Value} (hv : fs[f]? = some v) (hdg : decode cc pc = .ok (.getfield index, 3)) (k : hsV p l e R s m args below meth c Q nL D cl A H0 cells slots (pc + 3) lv ws (v :: rest)) : hsV p l e R s m args below meth c Q nL D cl A H0 cells slots (pc) lv ws (.ref a :: rest) := fun H locs ls hl hP hD hS => va_getN h.1.1 h.1.2.1 h.1.2.2.2.2 hin h.1.2.2.2.1 h.2.1 hP q0 he hc f hk (va_Nw.use rfl (h.2.2.2.1.1 _ hlk)) hsame hv hdg (k H locs ls hl hP hD hS)
theorem hv_put (h : hsX p m c cc nL s args own D cl tys A H0) {ref C : String} {T : u_T} {N ci index : Nat} {fs : List Value} {a : Nat} (q0 : Nat) (he : ws[q0]? = some (a, .inr (ci, fs))) (hc : cl[ci]? = some (C, T, N)) (f : Nat) (hk : f < N) (hin : ∀ w ∈ u_ws C T N, w ∈ hsAll) (ty0 : Nat → FieldType) (hty : ∀ k, k < N → parseFieldDescriptor (T k).2.2.1 = some (ty0 k)) (hnm : ∀ a, a < N → ∀ b, b < N → a ≠ b → (T a).2.1 ≠ (T b).2.1) (hlk : Cond.fieldLink own index ref (T f).2.1 (T f).2.2.1 ∈ hsAll) (hsame : ∀ x, s.fieldFound? (T f).1 (T f).2.1 (T f).2.2.1 = some x → s.fieldFound? ref (T f).2.1 (T f).2.2.1 = some x) (hfin : (T f).2.2.2 = false) {ty : FieldType} {v : Value} (hd : parseFieldDescriptor (T f).2.2.1 = some ty) (hn : narrow ty v = v) (hfit : fits ty v = true) (hfl : f < fs.length) (hdg : decode cc pc = .ok (.putfield index, 3)) (hw : ws.set q0 (a, .inr (ci, fs.set f v)) = ws') (k : hsV p l e R s m args below meth c Q nL D cl A H0 cells slots (pc + 3) lv ws' (rest)) : hsV p l e R s m args below meth c Q nL D cl A H0 cells slots (pc) lv ws (v :: .ref a :: rest) := fun H locs ls hl hP hD hS => va_put h.1.1 h.1.2.1 h.1.2.2.2.2 hin ty0 hty hnm h.1.2.2.2.1 h.2.1 hP hD hS q0 he hc f hk (h.1.2.2.2.2 _ hlk) hsame hfin hd hn hfit hfl hdg (fun H1 locs1 hP1 hD1 hS1 => k H1 locs1 ls hl (hw ▸ hP1) (hw ▸ hD1) hS1)
theorem hv_putN (h : hsX p m c cc nL s args own D cl tys A H0) {ref C : String} {T : u_T} {N ci index : Nat} {fs : List Value} {a : Nat} (q0 : Nat) (he : ws[q0]? = some (a, .inr (ci, fs))) (hc : cl[ci]? = some (C, T, N)) (f : Nat) (hk : f < N) (hin : ∀ w ∈ u_ws C T N, w ∈ hsAll) {host : String} (ty0 : Nat → FieldType) (hty : ∀ k, k < N → parseFieldDescriptor (T k).2.2.1 = some (ty0 k)) (hnm : ∀ a, a < N → ∀ b, b < N → a ≠ b → (T a).2.1 ≠ (T b).2.1) (hlk : (own, index, ref, (T f).2.1, (T f).2.2.1, host) ∈ hsNF) (hsame : ∀ x, s.fieldFound? (T f).1 (T f).2.1 (T f).2.2.1 = some x → s.fieldFound? ref (T f).2.1 (T f).2.2.1 = some x) (hfin : (T f).2.2.2 = false) {ty : FieldType} {v : Value} (hd : parseFieldDescriptor (T f).2.2.1 = some ty) (hn : narrow ty v = v) (hfit : fits ty v = true) (hfl : f < fs.length) (hdg : decode cc pc = .ok (.putfield index, 3)) (hw : ws.set q0 (a, .inr (ci, fs.set f v)) = ws') (k : hsV p l e R s m args below meth c Q nL D cl A H0 cells slots (pc + 3) lv ws' (rest)) : hsV p l e R s m args below meth c Q nL D cl A H0 cells slots (pc) lv ws (v :: .ref a :: rest) := fun H locs ls hl hP hD hS => va_putN h.1.1 h.1.2.1 h.1.2.2.2.2 hin ty0 hty hnm h.1.2.2.2.1 h.2.1 hP hD hS q0 he hc f hk (va_Nw.use rfl (h.2.2.2.1.1 _ hlk)) hsame hfin hd hn hfit hfl hdg (fun H1 locs1 hP1 hD1 hS1 => k H1 locs1 ls hl (hw ▸ hP1) (hw ▸ hD1) hS1)
theorem hv_iald (h : hsX p m c cc nL s args own D cl tys A H0) {a : Nat} {cA : ClassId} {n : Nat} {f : Nat → Int32} {i : Int32} {v : Int32} (q0 t0 : Nat) (ha : ws[q0]? = some (a, .inl (cA, n, .inl f))) (ht : tys[t0]? = some (cA, .int)) (hin : vp_in i n) (hv : f i.toNatClampNeg = v) (hdg : decode cc pc = .ok (.iaload, 1)) (k : hsV p l e R s m args below meth c Q nL D cl A H0 cells slots (pc + 1) lv ws (.int v :: rest)) : hsV p l e R s m args below meth c Q nL D cl A H0 cells slots (pc) lv ws (.int i :: .ref a :: rest) := fun H locs ls hl hP hD hS => va_iald h.1.1 h.1.2.1 h.2.1 hP q0 t0 ha ht hin hdg (by rw [hv]; exact (k H locs ls hl hP hD hS))
theorem hv_iast (h : hsX p m c cc nL s args own D cl tys A H0) {a : Nat} {cA : ClassId} {n : Nat} {f : Nat → Int32} {i x : Int32} (q0 t0 : Nat) (ha : ws[q0]? = some (a, .inl (cA, n, .inl f))) (ht : tys[t0]? = some (cA, .int)) (hin : vp_in i n) (hdg : decode cc pc = .ok (.iastore, 1)) (hw : ws.set q0 (a, .inl (cA, n, .inl (upd f i.toNatClampNeg x))) = ws') (k : hsV p l e R s m args below meth c Q nL D cl A H0 cells slots (pc + 1) lv ws' (rest)) : hsV p l e R s m args below meth c Q nL D cl A H0 cells slots (pc) lv ws (.int x :: .int i :: .ref a :: rest) := fun H locs ls hl hP hD hS => va_iast h.1.1 h.1.2.1 h.2.1 hP hD hS q0 t0 ha ht hin hdg (fun H1 locs1 hP1 hD1 hS1 => k H1 locs1 ls hl (hw ▸ hP1) (hw ▸ hD1) hS1)
theorem hv_aald (h : hsX p m c cc nL s args own D cl tys A H0) {a : Nat} {cA : ClassId} {n : Nat} {C : String} {f : Nat → Option Nat} {i : Int32} {v : Value} (q0 t0 : Nat) (ha : ws[q0]? = some (a, .inl (cA, n, .inr (.inr (.inr (.inr f)))))) (ht : tys[t0]? = some (cA, .object C)) (hin : vp_in i n) (hv : va_rf (f i.toNatClampNeg) = v) (hdg : decode cc pc = .ok (.aaload, 1)) (k : hsV p l e R s m args below meth c Q nL D cl A H0 cells slots (pc + 1) lv ws (v :: rest)) : hsV p l e R s m args below meth c Q nL D cl A H0 cells slots (pc) lv ws (.int i :: .ref a :: rest) := fun H locs ls hl hP hD hS => va_aldq h.1.1 h.1.2.1 h.2.1 hP q0 t0 ha ht hin hdg (by rw [hv]; exact (k H locs ls hl hP hD hS))
theorem hv_aast (h : hsX p m c cc nL s args own D cl tys A H0) {a : Nat} {cA : ClassId} {n : Nat} {r : vw_C} {v ci : Nat} {vs : List Value} {f : Nat → Option Nat} {i : Int32} (q0 t0 qk : Nat) (ha : ws[q0]? = some (a, .inl (cA, n, .inr (.inr (.inr (.inr f)))))) (ht : tys[t0]? = some (cA, .object r.1)) (hv : ws[qk]? = some (v, .inr (ci, vs))) (hc : cl[ci]? = some r) (hin : vp_in i n) (hdg : decode cc pc = .ok (.aastore, 1)) (hw : ws.set q0 (a, .inl (cA, n, .inr (.inr (.inr (.inr (va_up f i.toNatClampNeg (some v))))))) = ws') (k : hsV p l e R s m args below meth c Q nL D cl A H0 cells slots (pc + 1) lv ws' (rest)) : hsV p l e R s m args below meth c Q nL D cl A H0 cells slots (pc) lv ws (.ref v :: .int i :: .ref a :: rest) := fun H locs ls hl hP hD hS => va_astq h.1.1 h.1.2.1 h.2.1 hP hD hS q0 t0 qk ci ha ht hv hc hin hdg (fun H1 locs1 hP1 hD1 hS1 => k H1 locs1 ls hl (hw ▸ hP1) (hw ▸ hD1) hS1)
theorem hv_alen (h : hsX p m c cc nL s args own D cl tys A H0) {a : Nat} {cA : ClassId} {x : vp_A} {ty : FieldType} (q0 t0 : Nat) (v : Int32) (ha : ws[q0]? = some (a, .inl (cA, x))) (ht : tys[t0]? = some (cA, ty)) (hv : Int32.ofNat x.1 = v) (hdg : decode cc pc = .ok (.arraylength, 1)) (k : hsV p l e R s m args below meth c Q nL D cl A H0 cells slots (pc + 1) lv ws (.int v :: rest)) : hsV p l e R s m args below meth c Q nL D cl A H0 cells slots (pc) lv ws (.ref a :: rest) := fun H locs ls hl hP hD hS => va_alen h.1.1 h.1.2.1 h.2.1 hP q0 t0 ha ht hv hdg (k H locs ls hl hP hD hS)
theorem hv_iret {post : Int32 → va_W → Prop} {v : Int32} (h : hsX p m c cc nL s args own D cl tys A s.heap) (hr : meth.sig.returnType = some .int) (hlk : meth.locks = false) (hQ : Q = MQ below (va_Qi post (hsB D cl tys A) A) args s cells slots A) (hdg : decode cc pc = .ok (.ireturn, 1)) (hq : post v ws) : hsV p l e R s m args below meth c Q nL D cl A s.heap cells slots pc lv ws [.int v] := by subst hQ; exact fun H locs ls hl hP hD hS => W.iret h.1.1 h.1.2.1 hr (fun t ht hW => ⟨⟨v, ws, rfl, hq, by rw [ht]; exact hP, va_K.moved hW.alike h.2.1, hD⟩, hS.F ht⟩) hS.2.2 hdg hlk
theorem hv_zret {post : Int32 → va_W → Prop} {v : Int32} (h : hsX p m c cc nL s args own D cl tys A s.heap) (hr : meth.sig.returnType = some .boolean) (hlk : meth.locks = false) (hQ : Q = MQ below (va_Qi post (hsB D cl tys A) A) args s cells slots A) (hdg : decode cc pc = .ok (.ireturn, 1)) (hn : narrow .boolean (.int v) = .int v) (hq : post v ws) : hsV p l e R s m args below meth c Q nL D cl A s.heap cells slots pc lv ws [.int v] := by subst hQ; exact fun H locs ls hl hP hD hS => W.zret h.1.1 h.1.2.1 hr hn (fun t ht hW => ⟨⟨v, ws, rfl, hq, by rw [ht]; exact hP, va_K.moved hW.alike h.2.1, hD⟩, hS.F ht⟩) hS.2.2 hdg hlk
theorem hv_vret {post : va_W → Prop} (h : hsX p m c cc nL s args own D cl tys A s.heap) (hr : meth.sig.returnType = none) (hlk : meth.locks = false) (hQ : Q = MQ below (va_Qv post (hsB D cl tys A) A) args s cells slots A) (hdg : decode cc pc = .ok (.return_, 1)) (hq : post ws) : hsV p l e R s m args below meth c Q nL D cl A s.heap cells slots pc lv ws [] := by subst hQ; exact fun H locs ls hl hP hD hS => W.vret h.1.1 h.1.2.1 hr (fun t ht hW => ⟨⟨ws, rfl, hq, by rw [ht]; exact hP, va_K.moved hW.alike h.2.1, hD⟩, hS.F ht⟩) hS.2.2 hdg hlk
theorem hv_aret {post : Nat → va_W → Prop} {a : Nat} {C : String} (h : hsX p m c cc nL s args own D cl tys A s.heap) (hr : meth.sig.returnType = some (.object C)) (hlk : meth.locks = false) (hQ : Q = MQ below (va_Qr (fun _ : va_W => True) (fun w a t => post a w ∧ hsB D cl tys A w t) A) args s cells slots A) (hdg : decode cc pc = .ok (.areturn, 1)) (hq : post a ws) : hsV p l e R s m args below meth c Q nL D cl A s.heap cells slots pc lv ws [.ref a] := by subst hQ; exact fun H locs ls hl hP hD hS => W.aret h.1.1 h.1.2.1 hr (Or.inl ⟨_, rfl⟩) (Or.inr ⟨_, rfl⟩) (fun t ht hW => ⟨⟨ws, a, rfl, trivial, hq, by rw [ht]; exact hP, va_K.moved hW.alike h.2.1, hD⟩, hS.F ht⟩) hS.2.2 hdg hlk
theorem hsI.enter {y : MethodName} {wds : List Cond} {rm : Room} {av : List Value} {post : Int32 → va_W → Prop} {maxL : Nat} {ret : Option FieldType} (hy : plainName y.cls = true) (hw : wds = Cond.code y cc maxL ret :: hsAll) (hav : (lg_sl av).length ≤ maxL)
    (body : ∀ (p : Program) (e : Env) (s : State) (m : MethodId) (args : Array Value) (below : List Frame) (meth : Method) (c : Code) (A : Nat → Prop) (Q : State → Prop), Q = MQ below (va_Qi post (hsB D cl tys A) A) args s 0 0 A → hsX p m c cc maxL s args y.cls D cl tys A s.heap → meth.sig.returnType = ret → meth.locks = false → hsV p l e rm s m args below meth c Q maxL D cl A s.heap 0 0 0 (lv_args 0 av) ws []) : hsI l y wds rm D cl tys av ws post := by
  intro sz
  refine Met.ofW (cc := cc) (maxL := maxL) (ret := ret) hy hw ?_
  intro p e s m args below meth c s₁ B hml hv
  obtain ⟨rfl, hsz, hP, hK, hD0, hNw⟩ := hv
  have hts0 := atoms_spec (ws := wds) B.pre
  have hts : ∀ w ∈ hsAll, w.before av.toArray s = true := fun w hq => hts0 w (by rw [hw]; exact List.mem_cons_of_mem _ hq)
  have hown : s.vm.findClass y.cls = some m.cls := findClass_of_methodNamed B.named
  subst hsz
  have hD := hD0.self (sz := s.heap.size)
  have hl := lv_entry av (n := maxL) hav
  rw [lg_entry_eq]
  exact body p e s m _ below meth c _ _ rfl ⟨⟨B.exec, B.bytes, hml, hown, hts⟩, hK, fun q h => Or.inr h, hNw⟩ B.returns B.notSynchronized _ _ _ hl hP hD va_S.rf
theorem hsN.enter {y : MethodName} {wds : List Cond} {rm : Room} {av : List Value} {post : va_W → Prop} {maxL : Nat} {ret : Option FieldType} (hy : plainName y.cls = true) (hw : wds = Cond.code y cc maxL ret :: hsAll) (hav : (lg_sl av).length ≤ maxL)
    (body : ∀ (p : Program) (e : Env) (s : State) (m : MethodId) (args : Array Value) (below : List Frame) (meth : Method) (c : Code) (A : Nat → Prop) (Q : State → Prop), Q = MQ below (va_Qv post (hsB D cl tys A) A) args s 0 0 A → hsX p m c cc maxL s args y.cls D cl tys A s.heap → meth.sig.returnType = ret → meth.locks = false → hsV p l e rm s m args below meth c Q maxL D cl A s.heap 0 0 0 (lv_args 0 av) ws []) : hsN l y wds rm D cl tys av ws post := by
  intro sz
  refine Met.ofW (cc := cc) (maxL := maxL) (ret := ret) hy hw ?_
  intro p e s m args below meth c s₁ B hml hv
  obtain ⟨rfl, hsz, hP, hK, hD0, hNw⟩ := hv
  have hts0 := atoms_spec (ws := wds) B.pre
  have hts : ∀ w ∈ hsAll, w.before av.toArray s = true := fun w hq => hts0 w (by rw [hw]; exact List.mem_cons_of_mem _ hq)
  have hown : s.vm.findClass y.cls = some m.cls := findClass_of_methodNamed B.named
  subst hsz
  have hD := hD0.self (sz := s.heap.size)
  have hl := lv_entry av (n := maxL) hav
  rw [lg_entry_eq]
  exact body p e s m _ below meth c _ _ rfl ⟨⟨B.exec, B.bytes, hml, hown, hts⟩, hK, fun q h => Or.inr h, hNw⟩ B.returns B.notSynchronized _ _ _ hl hP hD va_S.rf
theorem hsQ.enter {y : MethodName} {wds : List Cond} {rm : Room} {av : List Value} {post : Nat → va_W → Prop} {maxL : Nat} {ret : Option FieldType} (hy : plainName y.cls = true) (hw : wds = Cond.code y cc maxL ret :: hsAll) (hav : (lg_sl av).length ≤ maxL)
    (body : ∀ (p : Program) (e : Env) (s : State) (m : MethodId) (args : Array Value) (below : List Frame) (meth : Method) (c : Code) (A : Nat → Prop) (Q : State → Prop), Q = MQ below (va_Qr (fun _ : va_W => True) (fun w a t => post a w ∧ hsB D cl tys A w t) A) args s 0 0 A → hsX p m c cc maxL s args y.cls D cl tys A s.heap → meth.sig.returnType = ret → meth.locks = false → hsV p l e rm s m args below meth c Q maxL D cl A s.heap 0 0 0 (lv_args 0 av) ws []) : hsQ l y wds rm D cl tys av ws post := by
  intro sz
  refine Met.ofW (cc := cc) (maxL := maxL) (ret := ret) hy hw ?_
  intro p e s m args below meth c s₁ B hml hv
  obtain ⟨rfl, hsz, hP, hK, hD0, hNw⟩ := hv
  have hts0 := atoms_spec (ws := wds) B.pre
  have hts : ∀ w ∈ hsAll, w.before av.toArray s = true := fun w hq => hts0 w (by rw [hw]; exact List.mem_cons_of_mem _ hq)
  have hown : s.vm.findClass y.cls = some m.cls := findClass_of_methodNamed B.named
  subst hsz
  have hD := hD0.self (sz := s.heap.size)
  have hl := lv_entry av (n := maxL) hav
  rw [lg_entry_eq]
  exact body p e s m _ below meth c _ _ rfl ⟨⟨B.exec, B.bytes, hml, hown, hts⟩, hK, fun q h => Or.inr h, hNw⟩ B.returns B.notSynchronized _ _ _ hl hP hD va_S.rf
theorem hs_free {H : Heap} {locs : List Loc} (hD : va_D A ws) (hS : va_S A H0 H locs) (hA : ∀ q : Nat, H0.size ≤ q → A q) : ∀ q, va_A ws H.size q → A q := by
  intro q hq
  rcases hq with ⟨k, x, hk⟩ | hq
  · exact hD.2 k (q, x) hk
  · exact hA q (Nat.le_trans hS.1 hq)
theorem hv_calli {post : Int32 → va_W → Prop} {a0 : Array Value} (h : hsX p m c cc nL s args own D cl tys A H0) (hrun : ∀ (H : Heap) (locs : List Loc) (ls : Array Slot), lv_has ls nL lv → va_P D cl ws H → va_D A ws → va_Run p l e R s m args below meth c H locs cells slots 0 0 (F0 m pc ls st) rest ((va_Qi post (hsB D cl tys (va_A ws H.size)) (va_A ws H.size)) a0) (va_A ws H.size)) (kk : ∀ (r : Int32) (w : va_W), post r w → hsV p l e R s m args below meth c Q nL D cl A H0 cells slots (pc + 3) lv w (.int r :: rest)) : hsV p l e R s m args below meth c Q nL D cl A H0 cells slots (pc) lv ws (st) := fun H locs ls hl hP hD hS => va_calli (hrun H locs ls hl hP hD) hS (fun q _ hq => hs_free hD hS h.2.2.1 q hq) (hs_free hD hS h.2.2.1) (fun r u t H1 locs1 ht _ hp hB _ _ hS1 => kk r u hp H1 locs1 ls hl (ht ▸ hB.1) (hB.2.2.weaken (fun _ q _ hq => hs_free hD hS h.2.2.1 q.1 hq)) hS1)
theorem hv_callv {post : va_W → Prop} {a0 : Array Value} (h : hsX p m c cc nL s args own D cl tys A H0) (hrun : ∀ (H : Heap) (locs : List Loc) (ls : Array Slot), lv_has ls nL lv → va_P D cl ws H → va_D A ws → va_Run p l e R s m args below meth c H locs cells slots 0 0 (F0 m pc ls st) rest ((va_Qv post (hsB D cl tys (va_A ws H.size)) (va_A ws H.size)) a0) (va_A ws H.size)) (kk : ∀ (w : va_W), post w → hsV p l e R s m args below meth c Q nL D cl A H0 cells slots (pc + 3) lv w (rest)) : hsV p l e R s m args below meth c Q nL D cl A H0 cells slots (pc) lv ws (st) := fun H locs ls hl hP hD hS => va_callv (hrun H locs ls hl hP hD) hS (fun q _ hq => hs_free hD hS h.2.2.1 q hq) (hs_free hD hS h.2.2.1) (fun u t H1 locs1 ht _ hp hB _ _ hS1 => kk u hp H1 locs1 ls hl (ht ▸ hB.1) (hB.2.2.weaken (fun _ q _ hq => hs_free hD hS h.2.2.1 q.1 hq)) hS1)
theorem hv_callr {post : Nat → va_W → Prop} {a0 : Array Value} (h : hsX p m c cc nL s args own D cl tys A H0) (hrun : ∀ (H : Heap) (locs : List Loc) (ls : Array Slot), lv_has ls nL lv → va_P D cl ws H → va_D A ws → va_Run p l e R s m args below meth c H locs cells slots 0 0 (F0 m pc ls st) rest ((va_Qr (fun _ : va_W => True) (fun w a t => post a w ∧ hsB D cl tys (va_A ws H.size) w t) (va_A ws H.size)) a0) (va_A ws H.size)) (kk : ∀ (r : Nat) (w : va_W), post r w → hsV p l e R s m args below meth c Q nL D cl A H0 cells slots (pc + 3) lv w (.ref r :: rest)) : hsV p l e R s m args below meth c Q nL D cl A H0 cells slots (pc) lv ws (st) := fun H locs ls hl hP hD hS => va_callr (hrun H locs ls hl hP hD) hS (fun q _ hq => hs_free hD hS h.2.2.1 q hq) (hs_free hD hS h.2.2.1) (fun u ra t H1 locs1 ht _ _ hB _ _ hS1 => kk ra u hB.1 H1 locs1 ls hl (ht ▸ hB.2.1) (hB.2.2.2.weaken (fun _ q _ hq => hs_free hD hS h.2.2.1 q.1 hq)) hS1)
theorem hs_blind {av : List Value} {sz : Nat} : FrameBlind (hsP D cl tys av ws sz) := fun a U g mk q => by
  obtain ⟨q0, q1, qP, qK, qD, qN⟩ := q
  exact ⟨q0, q1, qP, va_K.moved (u := U) (U := U.calling g mk a) (Vm.Alike.refl U.vm) qK, qD, qN.same rfl⟩
theorem hs_pre {av : List Value} {H : Heap} (hN : hsNw s) (hK : va_K D cl tys s) (hP : va_P D cl ws H) (hD : va_D A ws) : ∀ U : State, U.heap = H → s.WarmedH U.vm → hsP D cl tys av ws H.size av.toArray U := fun U hU hW => ⟨rfl, by rw [hU], by rw [hU]; exact hP, va_K.moved hW.alike hK, hD.weaken (fun _ _ _ _ => trivial), hN.warm hW⟩
theorem hs_goodC {y : MethodName} {bytes : ByteArray} {maxL : Nat} {ret : Option FieldType} (hcd : Cond.code y bytes maxL ret ∈ hsAll) : GoodIn hsAll (Cond.code y bytes maxL ret :: hsAll) := fun w hw => by
  rcases List.mem_cons.mp hw with rfl | hw
  · exact ⟨hcd, hs_all_good hcd⟩
  · exact ⟨hw, hs_all_good hw⟩
theorem hr_Si {y : MethodName} {rm : Room} {bytes : ByteArray} {maxL index n : Nat} {ret : Option FieldType} {As : List Value} {post : Int32 → va_W → Prop} (h : hsX p m c cc nL s args own D cl tys A H0) (hM : hsI l y (Cond.code y bytes maxL ret :: hsAll) rm D cl tys As ws post) (hlk : Cond.methodLink own index y ∈ hsAll) (hsta : Cond.static y ∈ hsAll) (hini : Cond.initialized y.cls ∈ hsAll) (hcd : Cond.code y bytes maxL ret ∈ hsAll) (hd : y.cls ≠ "java/lang/invoke/MethodHandle" ∧ y.cls ≠ "java/lang/invoke/VarHandle" ∧ (parseMethodDescriptor y.desc).map (fun d => d.parameters.length) = some n) (hn : As.length = n) (hrc : rm.cells = 0) (hrs : rm.slots = 0) (hR : rm.frames + 1 ≤ R.frames ∧ 8 + (maxL + 11) + rm.locals ≤ R.locals) (hst : st = As.reverse ++ rest) (hcat : (rest.map fun v => v.category).sum ≤ 8) (hcs : cells ≤ R.cells ∧ slots ≤ R.slots) (hdg : decode cc pc = .ok (.invokestatic index, 3)) : ∀ (H : Heap) (locs : List Loc) (ls : Array Slot), lv_has ls nL lv → va_P D cl ws H → va_D A ws → va_Run p l e R s m args below meth c H locs cells slots 0 0 (F0 m pc ls st) rest ((va_Qi post (hsB D cl tys (va_A ws H.size)) (va_A ws H.size)) As.toArray) (va_A ws H.size) := fun H locs ls hl hP hD => va_runS h.1 (hM H.size) ⟨callB_of n h.1.2.2.2.2 (hs_goodC hcd) rfl hrc hrs (h.1.2.2.2.2 _ hini) (h.1.2.2.2.2 _ hlk) hd hR, h.1.2.2.2.2 _ hsta⟩ ⟨hs_blind, hs_pre h.2.2.2 h.2.1 hP hD⟩ rfl hn hl.1 hst (lv_room hcat) hdg hcs
theorem hr_SNi {y : MethodName} {rm : Room} {bytes : ByteArray} {maxL index n : Nat} {ret : Option FieldType} {As : List Value} {host : String} {post : Int32 → va_W → Prop} (h : hsX p m c cc nL s args own D cl tys A H0) (hM : hsI l y (Cond.code y bytes maxL ret :: hsAll) rm D cl tys As ws post) (hlk : (own, index, y, host) ∈ hsNM) (hsta : Cond.static y ∈ hsAll) (hini : Cond.initialized y.cls ∈ hsAll) (hcd : Cond.code y bytes maxL ret ∈ hsAll) (hd : y.cls ≠ "java/lang/invoke/MethodHandle" ∧ y.cls ≠ "java/lang/invoke/VarHandle" ∧ (parseMethodDescriptor y.desc).map (fun d => d.parameters.length) = some n) (hn : As.length = n) (hrc : rm.cells = 0) (hrs : rm.slots = 0) (hR : rm.frames + 1 ≤ R.frames ∧ 8 + (maxL + 11) + rm.locals ≤ R.locals) (hst : st = As.reverse ++ rest) (hcat : (rest.map fun v => v.category).sum ≤ 8) (hcs : cells ≤ R.cells ∧ slots ≤ R.slots) (hdg : decode cc pc = .ok (.invokestatic index, 3)) : ∀ (H : Heap) (locs : List Loc) (ls : Array Slot), lv_has ls nL lv → va_P D cl ws H → va_D A ws → va_Run p l e R s m args below meth c H locs cells slots 0 0 (F0 m pc ls st) rest ((va_Qi post (hsB D cl tys (va_A ws H.size)) (va_A ws H.size)) As.toArray) (va_A ws H.size) := fun H locs ls hl hP hD => va_runSN h.1 (hM H.size) ⟨va_cnB n h.1.2.2.2.2 (hs_goodC hcd) rfl hrc hrs (h.2.2.2.1.2 _ hlk) (h.1.2.2.2.2 _ hini) hd hR, h.1.2.2.2.2 _ hsta, trivial⟩ ⟨hs_blind, hs_pre h.2.2.2 h.2.1 hP hD⟩ rfl hn hl.1 hst (lv_room hcat) hdg hcs
theorem hr_Vi {y : MethodName} {rm : Room} {bytes : ByteArray} {maxL index n : Nat} {ret : Option FieldType} {As : List Value} {post : Int32 → va_W → Prop} (h : hsX p m c cc nL s args own D cl tys A H0) {b ci : Nat} {fs : List Value} {C : String} {T : u_T} {N : Nat} (q0 : Nat) (hq0 : ws[q0]? = some (b, .inr (ci, fs))) (hcl : cl[ci]? = some (C, T, N)) (hM : hsI l y (Cond.code y bytes maxL ret :: hsAll) rm D cl tys (.ref b :: As) ws post) (hlk : Cond.methodLink own index y ∈ hsAll) (hinst : Cond.instanceMethod y ∈ hsAll) (hsel : Cond.selects C y y ∈ hsAll) (hini : Cond.initialized y.cls ∈ hsAll) (hcd : Cond.code y bytes maxL ret ∈ hsAll) (hd : y.cls ≠ "java/lang/invoke/MethodHandle" ∧ y.cls ≠ "java/lang/invoke/VarHandle" ∧ (parseMethodDescriptor y.desc).map (fun d => d.parameters.length) = some n) (hn : As.length = n) (hrc : rm.cells = 0) (hrs : rm.slots = 0) (hR : rm.frames + 1 ≤ R.frames ∧ 8 + (maxL + 11) + rm.locals ≤ R.locals) (hst : st = As.reverse ++ .ref b :: rest) (hcat : (rest.map fun v => v.category).sum ≤ 8) (hcs : cells ≤ R.cells ∧ slots ≤ R.slots) (hdg : decode cc pc = .ok (.invokevirtual index, 3)) : ∀ (H : Heap) (locs : List Loc) (ls : Array Slot), lv_has ls nL lv → va_P D cl ws H → va_D A ws → va_Run p l e R s m args below meth c H locs cells slots 0 0 (F0 m pc ls st) rest ((va_Qi post (hsB D cl tys (va_A ws H.size)) (va_A ws H.size)) (Value.ref b :: As).toArray) (va_A ws H.size) := fun H locs ls hl hP hD => va_runV h.1 (hM H.size) ⟨callB_of n h.1.2.2.2.2 (hs_goodC hcd) rfl hrc hrs (h.1.2.2.2.2 _ hini) (h.1.2.2.2.2 _ hlk) hd hR, h.1.2.2.2.2 _ hinst, h.1.2.2.2.2 _ hsel⟩ ⟨hs_blind, va_recv h.2.1 hP hcl hq0, hs_pre h.2.2.2 h.2.1 hP hD⟩ rfl hn hl.1 hst (lv_room hcat) hdg hcs
theorem hr_Sv {y : MethodName} {rm : Room} {bytes : ByteArray} {maxL index n : Nat} {ret : Option FieldType} {As : List Value} {post : va_W → Prop} (h : hsX p m c cc nL s args own D cl tys A H0) (hM : hsN l y (Cond.code y bytes maxL ret :: hsAll) rm D cl tys As ws post) (hlk : Cond.methodLink own index y ∈ hsAll) (hsta : Cond.static y ∈ hsAll) (hini : Cond.initialized y.cls ∈ hsAll) (hcd : Cond.code y bytes maxL ret ∈ hsAll) (hd : y.cls ≠ "java/lang/invoke/MethodHandle" ∧ y.cls ≠ "java/lang/invoke/VarHandle" ∧ (parseMethodDescriptor y.desc).map (fun d => d.parameters.length) = some n) (hn : As.length = n) (hrc : rm.cells = 0) (hrs : rm.slots = 0) (hR : rm.frames + 1 ≤ R.frames ∧ 8 + (maxL + 11) + rm.locals ≤ R.locals) (hst : st = As.reverse ++ rest) (hcat : (rest.map fun v => v.category).sum ≤ 8) (hcs : cells ≤ R.cells ∧ slots ≤ R.slots) (hdg : decode cc pc = .ok (.invokestatic index, 3)) : ∀ (H : Heap) (locs : List Loc) (ls : Array Slot), lv_has ls nL lv → va_P D cl ws H → va_D A ws → va_Run p l e R s m args below meth c H locs cells slots 0 0 (F0 m pc ls st) rest ((va_Qv post (hsB D cl tys (va_A ws H.size)) (va_A ws H.size)) As.toArray) (va_A ws H.size) := fun H locs ls hl hP hD => va_runS h.1 (hM H.size) ⟨callB_of n h.1.2.2.2.2 (hs_goodC hcd) rfl hrc hrs (h.1.2.2.2.2 _ hini) (h.1.2.2.2.2 _ hlk) hd hR, h.1.2.2.2.2 _ hsta⟩ ⟨hs_blind, hs_pre h.2.2.2 h.2.1 hP hD⟩ rfl hn hl.1 hst (lv_room hcat) hdg hcs
theorem hr_SNv {y : MethodName} {rm : Room} {bytes : ByteArray} {maxL index n : Nat} {ret : Option FieldType} {As : List Value} {host : String} {post : va_W → Prop} (h : hsX p m c cc nL s args own D cl tys A H0) (hM : hsN l y (Cond.code y bytes maxL ret :: hsAll) rm D cl tys As ws post) (hlk : (own, index, y, host) ∈ hsNM) (hsta : Cond.static y ∈ hsAll) (hini : Cond.initialized y.cls ∈ hsAll) (hcd : Cond.code y bytes maxL ret ∈ hsAll) (hd : y.cls ≠ "java/lang/invoke/MethodHandle" ∧ y.cls ≠ "java/lang/invoke/VarHandle" ∧ (parseMethodDescriptor y.desc).map (fun d => d.parameters.length) = some n) (hn : As.length = n) (hrc : rm.cells = 0) (hrs : rm.slots = 0) (hR : rm.frames + 1 ≤ R.frames ∧ 8 + (maxL + 11) + rm.locals ≤ R.locals) (hst : st = As.reverse ++ rest) (hcat : (rest.map fun v => v.category).sum ≤ 8) (hcs : cells ≤ R.cells ∧ slots ≤ R.slots) (hdg : decode cc pc = .ok (.invokestatic index, 3)) : ∀ (H : Heap) (locs : List Loc) (ls : Array Slot), lv_has ls nL lv → va_P D cl ws H → va_D A ws → va_Run p l e R s m args below meth c H locs cells slots 0 0 (F0 m pc ls st) rest ((va_Qv post (hsB D cl tys (va_A ws H.size)) (va_A ws H.size)) As.toArray) (va_A ws H.size) := fun H locs ls hl hP hD => va_runSN h.1 (hM H.size) ⟨va_cnB n h.1.2.2.2.2 (hs_goodC hcd) rfl hrc hrs (h.2.2.2.1.2 _ hlk) (h.1.2.2.2.2 _ hini) hd hR, h.1.2.2.2.2 _ hsta, trivial⟩ ⟨hs_blind, hs_pre h.2.2.2 h.2.1 hP hD⟩ rfl hn hl.1 hst (lv_room hcat) hdg hcs
theorem hr_Vv {y : MethodName} {rm : Room} {bytes : ByteArray} {maxL index n : Nat} {ret : Option FieldType} {As : List Value} {post : va_W → Prop} (h : hsX p m c cc nL s args own D cl tys A H0) {b ci : Nat} {fs : List Value} {C : String} {T : u_T} {N : Nat} (q0 : Nat) (hq0 : ws[q0]? = some (b, .inr (ci, fs))) (hcl : cl[ci]? = some (C, T, N)) (hM : hsN l y (Cond.code y bytes maxL ret :: hsAll) rm D cl tys (.ref b :: As) ws post) (hlk : Cond.methodLink own index y ∈ hsAll) (hinst : Cond.instanceMethod y ∈ hsAll) (hsel : Cond.selects C y y ∈ hsAll) (hini : Cond.initialized y.cls ∈ hsAll) (hcd : Cond.code y bytes maxL ret ∈ hsAll) (hd : y.cls ≠ "java/lang/invoke/MethodHandle" ∧ y.cls ≠ "java/lang/invoke/VarHandle" ∧ (parseMethodDescriptor y.desc).map (fun d => d.parameters.length) = some n) (hn : As.length = n) (hrc : rm.cells = 0) (hrs : rm.slots = 0) (hR : rm.frames + 1 ≤ R.frames ∧ 8 + (maxL + 11) + rm.locals ≤ R.locals) (hst : st = As.reverse ++ .ref b :: rest) (hcat : (rest.map fun v => v.category).sum ≤ 8) (hcs : cells ≤ R.cells ∧ slots ≤ R.slots) (hdg : decode cc pc = .ok (.invokevirtual index, 3)) : ∀ (H : Heap) (locs : List Loc) (ls : Array Slot), lv_has ls nL lv → va_P D cl ws H → va_D A ws → va_Run p l e R s m args below meth c H locs cells slots 0 0 (F0 m pc ls st) rest ((va_Qv post (hsB D cl tys (va_A ws H.size)) (va_A ws H.size)) (Value.ref b :: As).toArray) (va_A ws H.size) := fun H locs ls hl hP hD => va_runV h.1 (hM H.size) ⟨callB_of n h.1.2.2.2.2 (hs_goodC hcd) rfl hrc hrs (h.1.2.2.2.2 _ hini) (h.1.2.2.2.2 _ hlk) hd hR, h.1.2.2.2.2 _ hinst, h.1.2.2.2.2 _ hsel⟩ ⟨hs_blind, va_recv h.2.1 hP hcl hq0, hs_pre h.2.2.2 h.2.1 hP hD⟩ rfl hn hl.1 hst (lv_room hcat) hdg hcs
theorem hr_Sr {y : MethodName} {rm : Room} {bytes : ByteArray} {maxL index n : Nat} {ret : Option FieldType} {As : List Value} {post : Nat → va_W → Prop} (h : hsX p m c cc nL s args own D cl tys A H0) (hM : hsQ l y (Cond.code y bytes maxL ret :: hsAll) rm D cl tys As ws post) (hlk : Cond.methodLink own index y ∈ hsAll) (hsta : Cond.static y ∈ hsAll) (hini : Cond.initialized y.cls ∈ hsAll) (hcd : Cond.code y bytes maxL ret ∈ hsAll) (hd : y.cls ≠ "java/lang/invoke/MethodHandle" ∧ y.cls ≠ "java/lang/invoke/VarHandle" ∧ (parseMethodDescriptor y.desc).map (fun d => d.parameters.length) = some n) (hn : As.length = n) (hrc : rm.cells = 0) (hrs : rm.slots = 0) (hR : rm.frames + 1 ≤ R.frames ∧ 8 + (maxL + 11) + rm.locals ≤ R.locals) (hst : st = As.reverse ++ rest) (hcat : (rest.map fun v => v.category).sum ≤ 8) (hcs : cells ≤ R.cells ∧ slots ≤ R.slots) (hdg : decode cc pc = .ok (.invokestatic index, 3)) : ∀ (H : Heap) (locs : List Loc) (ls : Array Slot), lv_has ls nL lv → va_P D cl ws H → va_D A ws → va_Run p l e R s m args below meth c H locs cells slots 0 0 (F0 m pc ls st) rest ((va_Qr (fun _ : va_W => True) (fun w a t => post a w ∧ hsB D cl tys (va_A ws H.size) w t) (va_A ws H.size)) As.toArray) (va_A ws H.size) := fun H locs ls hl hP hD => va_runS h.1 (hM H.size) ⟨callB_of n h.1.2.2.2.2 (hs_goodC hcd) rfl hrc hrs (h.1.2.2.2.2 _ hini) (h.1.2.2.2.2 _ hlk) hd hR, h.1.2.2.2.2 _ hsta⟩ ⟨hs_blind, hs_pre h.2.2.2 h.2.1 hP hD⟩ rfl hn hl.1 hst (lv_room hcat) hdg hcs
theorem hr_SNr {y : MethodName} {rm : Room} {bytes : ByteArray} {maxL index n : Nat} {ret : Option FieldType} {As : List Value} {host : String} {post : Nat → va_W → Prop} (h : hsX p m c cc nL s args own D cl tys A H0) (hM : hsQ l y (Cond.code y bytes maxL ret :: hsAll) rm D cl tys As ws post) (hlk : (own, index, y, host) ∈ hsNM) (hsta : Cond.static y ∈ hsAll) (hini : Cond.initialized y.cls ∈ hsAll) (hcd : Cond.code y bytes maxL ret ∈ hsAll) (hd : y.cls ≠ "java/lang/invoke/MethodHandle" ∧ y.cls ≠ "java/lang/invoke/VarHandle" ∧ (parseMethodDescriptor y.desc).map (fun d => d.parameters.length) = some n) (hn : As.length = n) (hrc : rm.cells = 0) (hrs : rm.slots = 0) (hR : rm.frames + 1 ≤ R.frames ∧ 8 + (maxL + 11) + rm.locals ≤ R.locals) (hst : st = As.reverse ++ rest) (hcat : (rest.map fun v => v.category).sum ≤ 8) (hcs : cells ≤ R.cells ∧ slots ≤ R.slots) (hdg : decode cc pc = .ok (.invokestatic index, 3)) : ∀ (H : Heap) (locs : List Loc) (ls : Array Slot), lv_has ls nL lv → va_P D cl ws H → va_D A ws → va_Run p l e R s m args below meth c H locs cells slots 0 0 (F0 m pc ls st) rest ((va_Qr (fun _ : va_W => True) (fun w a t => post a w ∧ hsB D cl tys (va_A ws H.size) w t) (va_A ws H.size)) As.toArray) (va_A ws H.size) := fun H locs ls hl hP hD => va_runSN h.1 (hM H.size) ⟨va_cnB n h.1.2.2.2.2 (hs_goodC hcd) rfl hrc hrs (h.2.2.2.1.2 _ hlk) (h.1.2.2.2.2 _ hini) hd hR, h.1.2.2.2.2 _ hsta, trivial⟩ ⟨hs_blind, hs_pre h.2.2.2 h.2.1 hP hD⟩ rfl hn hl.1 hst (lv_room hcat) hdg hcs
theorem hr_Vr {y : MethodName} {rm : Room} {bytes : ByteArray} {maxL index n : Nat} {ret : Option FieldType} {As : List Value} {post : Nat → va_W → Prop} (h : hsX p m c cc nL s args own D cl tys A H0) {b ci : Nat} {fs : List Value} {C : String} {T : u_T} {N : Nat} (q0 : Nat) (hq0 : ws[q0]? = some (b, .inr (ci, fs))) (hcl : cl[ci]? = some (C, T, N)) (hM : hsQ l y (Cond.code y bytes maxL ret :: hsAll) rm D cl tys (.ref b :: As) ws post) (hlk : Cond.methodLink own index y ∈ hsAll) (hinst : Cond.instanceMethod y ∈ hsAll) (hsel : Cond.selects C y y ∈ hsAll) (hini : Cond.initialized y.cls ∈ hsAll) (hcd : Cond.code y bytes maxL ret ∈ hsAll) (hd : y.cls ≠ "java/lang/invoke/MethodHandle" ∧ y.cls ≠ "java/lang/invoke/VarHandle" ∧ (parseMethodDescriptor y.desc).map (fun d => d.parameters.length) = some n) (hn : As.length = n) (hrc : rm.cells = 0) (hrs : rm.slots = 0) (hR : rm.frames + 1 ≤ R.frames ∧ 8 + (maxL + 11) + rm.locals ≤ R.locals) (hst : st = As.reverse ++ .ref b :: rest) (hcat : (rest.map fun v => v.category).sum ≤ 8) (hcs : cells ≤ R.cells ∧ slots ≤ R.slots) (hdg : decode cc pc = .ok (.invokevirtual index, 3)) : ∀ (H : Heap) (locs : List Loc) (ls : Array Slot), lv_has ls nL lv → va_P D cl ws H → va_D A ws → va_Run p l e R s m args below meth c H locs cells slots 0 0 (F0 m pc ls st) rest ((va_Qr (fun _ : va_W => True) (fun w a t => post a w ∧ hsB D cl tys (va_A ws H.size) w t) (va_A ws H.size)) (Value.ref b :: As).toArray) (va_A ws H.size) := fun H locs ls hl hP hD => va_runV h.1 (hM H.size) ⟨callB_of n h.1.2.2.2.2 (hs_goodC hcd) rfl hrc hrs (h.1.2.2.2.2 _ hini) (h.1.2.2.2.2 _ hlk) hd hR, h.1.2.2.2.2 _ hinst, h.1.2.2.2.2 _ hsel⟩ ⟨hs_blind, va_recv h.2.1 hP hcl hq0, hs_pre h.2.2.2 h.2.1 hP hD⟩ rfl hn hl.1 hst (lv_room hcat) hdg hcs
theorem hv_callp {v : Int32} {a0 : Array Value} (h : hsX p m c cc nL s args own D cl tys A H0) (hrun : ∀ (H : Heap) (locs : List Loc) (ls : Array Slot), lv_has ls nL lv → va_P D cl ws H → va_D A ws → va_Run p l e R s m args below meth c H locs cells slots 0 0 (F0 m pc ls st) rest ((va_Qi (fun (r : Int32) (w : va_W) => r = v ∧ w = ws') (hsB D cl tys (va_A ws H.size)) (va_A ws H.size)) a0) (va_A ws H.size)) (k : hsV p l e R s m args below meth c Q nL D cl A H0 cells slots (pc + 3) lv ws' (.int v :: rest)) : hsV p l e R s m args below meth c Q nL D cl A H0 cells slots (pc) lv ws (st) := hv_calli h hrun (fun r w hp => by obtain ⟨e1, e2⟩ := hp; rw [e1, e2]; exact k)
theorem hv_callw {a0 : Array Value} (h : hsX p m c cc nL s args own D cl tys A H0) (hrun : ∀ (H : Heap) (locs : List Loc) (ls : Array Slot), lv_has ls nL lv → va_P D cl ws H → va_D A ws → va_Run p l e R s m args below meth c H locs cells slots 0 0 (F0 m pc ls st) rest ((va_Qv (fun (w : va_W) => w = ws') (hsB D cl tys (va_A ws H.size)) (va_A ws H.size)) a0) (va_A ws H.size)) (k : hsV p l e R s m args below meth c Q nL D cl A H0 cells slots (pc + 3) lv ws' (rest)) : hsV p l e R s m args below meth c Q nL D cl A H0 cells slots (pc) lv ws (st) := hv_callv h hrun (fun w hp => by rw [show w = ws' from hp]; exact k)
theorem hv_callq {v : Nat} {a0 : Array Value} (h : hsX p m c cc nL s args own D cl tys A H0) (hrun : ∀ (H : Heap) (locs : List Loc) (ls : Array Slot), lv_has ls nL lv → va_P D cl ws H → va_D A ws → va_Run p l e R s m args below meth c H locs cells slots 0 0 (F0 m pc ls st) rest ((va_Qr (fun _ : va_W => True) (fun w a t => (fun (r : Nat) (w : va_W) => r = v ∧ w = ws') a w ∧ hsB D cl tys (va_A ws H.size) w t) (va_A ws H.size)) a0) (va_A ws H.size)) (k : hsV p l e R s m args below meth c Q nL D cl A H0 cells slots (pc + 3) lv ws' (.ref v :: rest)) : hsV p l e R s m args below meth c Q nL D cl A H0 cells slots (pc) lv ws (st) := hv_callr h hrun (fun r w hp => by obtain ⟨e1, e2⟩ := hp; rw [e1, e2]; exact k)
theorem hv_bif_eq (h : hsX p m c cc nL s args own D cl tys A H0) {b : Bool} {off : Int} (tgt : Nat) (hdg : decode cc pc = .ok (.ifCond .eq off, 3)) (ht : (pc : Int) + off = (tgt : Int)) (kt : b = false → hsV p l e R s m args below meth c Q nL D cl A H0 cells slots (tgt) lv ws (rest)) (kf : b = true → hsV p l e R s m args below meth c Q nL D cl A H0 cells slots (pc + 3) lv ws (rest)) : hsV p l e R s m args below meth c Q nL D cl A H0 cells slots (pc) lv ws (.int (hx_b b) :: rest) := hv_if_eq h tgt hdg ht (fun q => kt (hx_b0.mp q)) (fun q => kf (hx_bn0.mp q))
theorem hv_bif_ne (h : hsX p m c cc nL s args own D cl tys A H0) {b : Bool} {off : Int} (tgt : Nat) (hdg : decode cc pc = .ok (.ifCond .ne off, 3)) (ht : (pc : Int) + off = (tgt : Int)) (kt : b = true → hsV p l e R s m args below meth c Q nL D cl A H0 cells slots (tgt) lv ws (rest)) (kf : b = false → hsV p l e R s m args below meth c Q nL D cl A H0 cells slots (pc + 3) lv ws (rest)) : hsV p l e R s m args below meth c Q nL D cl A H0 cells slots (pc) lv ws (.int (hx_b b) :: rest) := hv_if_ne h tgt hdg ht (fun q => kt (hx_bn0.mp q)) (fun q => kf (hx_b0.mp q))
theorem hv_sel (h : hsX p m c cc nL s args own D cl tys A H0) {b : Bool} {n1 n2 o1 o2 : Int} (x y : Int32) (d1 : decode cc pc = .ok (.ifCond .eq o1, 3)) (t1 : (pc : Int) + o1 = ((pc + 7 : Nat) : Int)) (d2 : decode cc (pc + 3) = .ok (.iconst n1, 1)) (hx : Int32.ofInt n1 = x) (d3 : decode cc (pc + 4) = .ok (.goto o2, 3)) (t2 : ((pc + 4 : Nat) : Int) + o2 = ((pc + 8 : Nat) : Int)) (d4 : decode cc (pc + 7) = .ok (.iconst n2, 1)) (hy : Int32.ofInt n2 = y) (k : hsV p l e R s m args below meth c Q nL D cl A H0 cells slots (pc + 8) lv ws (.int (hx_s b x y) :: rest)) : hsV p l e R s m args below meth c Q nL D cl A H0 cells slots (pc) lv ws (.int (hx_b b) :: rest) := hv_bif_eq h (pc + 7) d1 t1 (fun q => by subst q; exact hv_iconst h y d4 hy k) (fun q => by subst q; exact hv_iconst h x d2 hx (hv_goto h (pc + 8) d3 t2 k))
theorem hs_nm {x : Int32} (k : ∀ y : Int32, y = x → hsV p l e R s m args below meth c Q nL D cl A H0 cells slots (pc) lv ws (.int y :: rest)) : hsV p l e R s m args below meth c Q nL D cl A H0 cells slots (pc) lv ws (.int x :: rest) := k x rfl
end HsRows
end
section
abbrev rX5_bitCount : Room := { frames := 0, cells := 0, slots := 0, locals := 0 }
set_option maxHeartbeats 4000000 in
set_option maxRecDepth 100000 in
theorem k_X5_bitCount (l : Launch) (D : va_G) (cI cC : ClassId) (ws : va_W) (i0 : Int32) : hsI l yX5_bitCount wsX5_bitCount rX5_bitCount D vwCl (hsT cI cC) [.int i0] ws (fun r w => r = hj_bc i0 ∧ w = ws) := by
  refine hsI.enter (cc := cX5_bitCount) (maxL := 1) (ret := (some .int)) (by decide) rfl (Nat.le_of_ble_eq_true rfl) ?_
  intro Pg En Ss Mi Ar Be Me Co AA QQ hQ h hr hlk
  refine hs_lv (lv' := [(0, .int i0)]) rfl ?_
  refine hv_iload_n h dX5_bitCount_0 0 rfl rfl ?_
  refine hv_iload_n h dX5_bitCount_1 0 rfl rfl ?_
  refine hv_iconst h (1) dX5_bitCount_2 (by decide) ?_
  refine hv_iushr h dX5_bitCount_3 ?_
  refine hv_ldcw h (1431655765) w_constant_X5_265 dX5_bitCount_4 ?_
  refine hv_iand h dX5_bitCount_7 ?_
  refine hv_isub h dX5_bitCount_8 ?_
  refine hv_istore_n h [(0, .int (i0 - ((hj_u i0 1) &&& 1431655765)))] dX5_bitCount_9 rfl (by decide) rfl ?_
  refine hs_lv (lv' := [(0, .int (hj_bc1 i0))]) rfl ?_
  refine hv_iload_n h dX5_bitCount_10 0 rfl rfl ?_
  refine hv_ldcw h (858993459) w_constant_X5_266 dX5_bitCount_11 ?_
  refine hv_iand h dX5_bitCount_14 ?_
  refine hv_iload_n h dX5_bitCount_15 0 rfl rfl ?_
  refine hv_iconst h (2) dX5_bitCount_16 (by decide) ?_
  refine hv_iushr h dX5_bitCount_17 ?_
  refine hv_ldcw h (858993459) w_constant_X5_266 dX5_bitCount_18 ?_
  refine hv_iand h dX5_bitCount_21 ?_
  refine hv_iadd h dX5_bitCount_22 ?_
  refine hv_istore_n h [(0, .int (((hj_bc1 i0) &&& 858993459) + ((hj_u (hj_bc1 i0) 2) &&& 858993459)))] dX5_bitCount_23 rfl (by decide) rfl ?_
  refine hs_lv (lv' := [(0, .int (hj_bc2 (hj_bc1 i0)))]) rfl ?_
  refine hv_iload_n h dX5_bitCount_24 0 rfl rfl ?_
  refine hv_iload_n h dX5_bitCount_25 0 rfl rfl ?_
  refine hv_iconst h (4) dX5_bitCount_26 (by decide) ?_
  refine hv_iushr h dX5_bitCount_27 ?_
  refine hv_iadd h dX5_bitCount_28 ?_
  refine hv_ldcw h (252645135) w_constant_X5_267 dX5_bitCount_29 ?_
  refine hv_iand h dX5_bitCount_32 ?_
  refine hv_istore_n h [(0, .int (((hj_bc2 (hj_bc1 i0)) + (hj_u (hj_bc2 (hj_bc1 i0)) 4)) &&& 252645135))] dX5_bitCount_33 rfl (by decide) rfl ?_
  refine hs_lv (lv' := [(0, .int (hj_bc3 (hj_bc2 (hj_bc1 i0))))]) rfl ?_
  refine hv_iload_n h dX5_bitCount_34 0 rfl rfl ?_
  refine hv_iload_n h dX5_bitCount_35 0 rfl rfl ?_
  refine hv_bipush h (8) dX5_bitCount_36 (by decide) ?_
  refine hv_iushr h dX5_bitCount_38 ?_
  refine hv_iadd h dX5_bitCount_39 ?_
  refine hv_istore_n h [(0, .int ((hj_bc3 (hj_bc2 (hj_bc1 i0))) + (hj_u (hj_bc3 (hj_bc2 (hj_bc1 i0))) 8)))] dX5_bitCount_40 rfl (by decide) rfl ?_
  refine hs_lv (lv' := [(0, .int (hj_bc4 (hj_bc3 (hj_bc2 (hj_bc1 i0)))))]) rfl ?_
  refine hv_iload_n h dX5_bitCount_41 0 rfl rfl ?_
  refine hv_iload_n h dX5_bitCount_42 0 rfl rfl ?_
  refine hv_bipush h (16) dX5_bitCount_43 (by decide) ?_
  refine hv_iushr h dX5_bitCount_45 ?_
  refine hv_iadd h dX5_bitCount_46 ?_
  refine hv_istore_n h [(0, .int ((hj_bc4 (hj_bc3 (hj_bc2 (hj_bc1 i0)))) + (hj_u (hj_bc4 (hj_bc3 (hj_bc2 (hj_bc1 i0)))) 16)))] dX5_bitCount_47 rfl (by decide) rfl ?_
  refine hs_lv (lv' := [(0, .int (hj_bc5 (hj_bc4 (hj_bc3 (hj_bc2 (hj_bc1 i0))))))]) rfl ?_
  refine hv_iload_n h dX5_bitCount_48 0 rfl rfl ?_
  refine hv_bipush h (63) dX5_bitCount_49 (by decide) ?_
  refine hv_iand h dX5_bitCount_51 ?_
  exact hv_iret h hr hlk hQ dX5_bitCount_52 ⟨rfl, rfl⟩
abbrev rX5_reverseBytes : Room := { frames := 0, cells := 0, slots := 0, locals := 0 }
set_option maxHeartbeats 4000000 in
set_option maxRecDepth 100000 in
theorem k_X5_reverseBytes (l : Launch) (D : va_G) (cI cC : ClassId) (ws : va_W) (i0 : Int32) : hsI l yX5_reverseBytes wsX5_reverseBytes rX5_reverseBytes D vwCl (hsT cI cC) [.int i0] ws (fun r w => r = hj_rb i0 ∧ w = ws) := by
  refine hsI.enter (cc := cX5_reverseBytes) (maxL := 1) (ret := (some .int)) (by decide) rfl (Nat.le_of_ble_eq_true rfl) ?_
  intro Pg En Ss Mi Ar Be Me Co AA QQ hQ h hr hlk
  refine hs_lv (lv' := [(0, .int i0)]) rfl ?_
  refine hv_iload_n h dX5_reverseBytes_0 0 rfl rfl ?_
  refine hv_bipush h (24) dX5_reverseBytes_1 (by decide) ?_
  refine hv_ishl h dX5_reverseBytes_3 ?_
  refine hv_iload_n h dX5_reverseBytes_4 0 rfl rfl ?_
  refine hv_ldcw h (65280) w_constant_X5_274 dX5_reverseBytes_5 ?_
  refine hv_iand h dX5_reverseBytes_8 ?_
  refine hv_bipush h (8) dX5_reverseBytes_9 (by decide) ?_
  refine hv_ishl h dX5_reverseBytes_11 ?_
  refine hv_ior h dX5_reverseBytes_12 ?_
  refine hv_iload_n h dX5_reverseBytes_13 0 rfl rfl ?_
  refine hv_bipush h (8) dX5_reverseBytes_14 (by decide) ?_
  refine hv_iushr h dX5_reverseBytes_16 ?_
  refine hv_ldcw h (65280) w_constant_X5_274 dX5_reverseBytes_17 ?_
  refine hv_iand h dX5_reverseBytes_20 ?_
  refine hv_ior h dX5_reverseBytes_21 ?_
  refine hv_iload_n h dX5_reverseBytes_22 0 rfl rfl ?_
  refine hv_bipush h (24) dX5_reverseBytes_23 (by decide) ?_
  refine hv_iushr h dX5_reverseBytes_25 ?_
  refine hv_ior h dX5_reverseBytes_26 ?_
  exact hv_iret h hr hlk hQ dX5_reverseBytes_27 ⟨rfl, rfl⟩
abbrev rX5_reverse : Room := { frames := 1, cells := 0, slots := 0, locals := 20 }
set_option maxHeartbeats 4000000 in
set_option maxRecDepth 100000 in
theorem k_X5_reverse (l : Launch) (D : va_G) (cI cC : ClassId) (ws : va_W) (i0 : Int32) : hsI l yX5_reverse wsX5_reverse rX5_reverse D vwCl (hsT cI cC) [.int i0] ws (fun r w => r = hj_rev i0 ∧ w = ws) := by
  refine hsI.enter (cc := cX5_reverse) (maxL := 1) (ret := (some .int)) (by decide) rfl (Nat.le_of_ble_eq_true rfl) ?_
  intro Pg En Ss Mi Ar Be Me Co AA QQ hQ h hr hlk
  refine hs_lv (lv' := [(0, .int i0)]) rfl ?_
  refine hv_iload_n h dX5_reverse_0 0 rfl rfl ?_
  refine hv_ldcw h (1431655765) w_constant_X5_265 dX5_reverse_1 ?_
  refine hv_iand h dX5_reverse_4 ?_
  refine hv_iconst h (1) dX5_reverse_5 (by decide) ?_
  refine hv_ishl h dX5_reverse_6 ?_
  refine hv_iload_n h dX5_reverse_7 0 rfl rfl ?_
  refine hv_iconst h (1) dX5_reverse_8 (by decide) ?_
  refine hv_iushr h dX5_reverse_9 ?_
  refine hv_ldcw h (1431655765) w_constant_X5_265 dX5_reverse_10 ?_
  refine hv_iand h dX5_reverse_13 ?_
  refine hv_ior h dX5_reverse_14 ?_
  refine hv_istore_n h [(0, .int (((i0 &&& 1431655765) <<< ((1 : Int32) &&& 31)) ||| ((hj_u i0 1) &&& 1431655765)))] dX5_reverse_15 rfl (by decide) rfl ?_
  refine hs_lv (lv' := [(0, .int (hj_r1 i0))]) rfl ?_
  refine hv_iload_n h dX5_reverse_16 0 rfl rfl ?_
  refine hv_ldcw h (858993459) w_constant_X5_266 dX5_reverse_17 ?_
  refine hv_iand h dX5_reverse_20 ?_
  refine hv_iconst h (2) dX5_reverse_21 (by decide) ?_
  refine hv_ishl h dX5_reverse_22 ?_
  refine hv_iload_n h dX5_reverse_23 0 rfl rfl ?_
  refine hv_iconst h (2) dX5_reverse_24 (by decide) ?_
  refine hv_iushr h dX5_reverse_25 ?_
  refine hv_ldcw h (858993459) w_constant_X5_266 dX5_reverse_26 ?_
  refine hv_iand h dX5_reverse_29 ?_
  refine hv_ior h dX5_reverse_30 ?_
  refine hv_istore_n h [(0, .int ((((hj_r1 i0) &&& 858993459) <<< ((2 : Int32) &&& 31)) ||| ((hj_u (hj_r1 i0) 2) &&& 858993459)))] dX5_reverse_31 rfl (by decide) rfl ?_
  refine hs_lv (lv' := [(0, .int (hj_r2 (hj_r1 i0)))]) rfl ?_
  refine hv_iload_n h dX5_reverse_32 0 rfl rfl ?_
  refine hv_ldcw h (252645135) w_constant_X5_267 dX5_reverse_33 ?_
  refine hv_iand h dX5_reverse_36 ?_
  refine hv_iconst h (4) dX5_reverse_37 (by decide) ?_
  refine hv_ishl h dX5_reverse_38 ?_
  refine hv_iload_n h dX5_reverse_39 0 rfl rfl ?_
  refine hv_iconst h (4) dX5_reverse_40 (by decide) ?_
  refine hv_iushr h dX5_reverse_41 ?_
  refine hv_ldcw h (252645135) w_constant_X5_267 dX5_reverse_42 ?_
  refine hv_iand h dX5_reverse_45 ?_
  refine hv_ior h dX5_reverse_46 ?_
  refine hv_istore_n h [(0, .int ((((hj_r2 (hj_r1 i0)) &&& 252645135) <<< ((4 : Int32) &&& 31)) ||| ((hj_u (hj_r2 (hj_r1 i0)) 4) &&& 252645135)))] dX5_reverse_47 rfl (by decide) rfl ?_
  refine hs_lv (lv' := [(0, .int (hj_r3 (hj_r2 (hj_r1 i0))))]) rfl ?_
  refine hv_iload_n h dX5_reverse_48 0 rfl rfl ?_
  refine hv_callp (ws' := ws) (v := hj_rb (hj_r3 (hj_r2 (hj_r1 i0)))) h (hr_Si (n := 1) (rest := []) h (k_X5_reverseBytes l D cI cC ws (hj_r3 (hj_r2 (hj_r1 i0)))) w_methodLink_X5_268 w_static_X5_reverseBytes w_initialized_X5 w_code_X5_reverseBytes (by decide +kernel) rfl rfl rfl ⟨by decide, by decide⟩ rfl (Nat.le_of_ble_eq_true rfl) ⟨Nat.zero_le _, Nat.zero_le _⟩ dX5_reverse_49) ?_
  exact hv_iret h hr hlk hQ dX5_reverse_52 ⟨rfl, rfl⟩
abbrev rX5_numberOfLeadingZeros : Room := { frames := 0, cells := 0, slots := 0, locals := 0 }
set_option maxHeartbeats 4000000 in
set_option maxRecDepth 100000 in
theorem k_X5_numberOfLeadingZeros (l : Launch) (D : va_G) (cI cC : ClassId) (ws : va_W) (i0 : Int32) : hsI l yX5_numberOfLeadingZeros wsX5_numberOfLeadingZeros rX5_numberOfLeadingZeros D vwCl (hsT cI cC) [.int i0] ws (fun r w => r = hj_nlz i0 ∧ w = ws) := by
  refine hsI.enter (cc := cX5_numberOfLeadingZeros) (maxL := 2) (ret := (some .int)) (by decide) rfl (Nat.le_of_ble_eq_true rfl) ?_
  intro Pg En Ss Mi Ar Be Me Co AA QQ hQ h hr hlk
  refine hs_lv (lv' := [(0, .int i0)]) rfl ?_
  refine hv_iload_n h dX5_numberOfLeadingZeros_0 0 rfl rfl ?_
  refine hv_if_gt h 15 dX5_numberOfLeadingZeros_1 rfl (fun c1 => ?_) (fun c1 => ?_)
  · refine hv_bipush h (31) dX5_numberOfLeadingZeros_15 (by decide) ?_
    refine hv_istore_n h [(1, .int 31), (0, .int i0)] dX5_numberOfLeadingZeros_17 rfl (by decide) rfl ?_
    refine hv_iload_n h dX5_numberOfLeadingZeros_18 1 rfl rfl ?_
    refine hv_ldcw h (65536) w_constant_X5_264 dX5_numberOfLeadingZeros_19 ?_
    refine hv_icmp_lt h 33 dX5_numberOfLeadingZeros_22 rfl (fun c22 => ?_) (fun c22 => ?_)
    · refine hv_iload_n h dX5_numberOfLeadingZeros_33 1 rfl rfl ?_
      refine hv_sipush h (256) dX5_numberOfLeadingZeros_34 (by decide) ?_
      refine hv_icmp_lt h 48 dX5_numberOfLeadingZeros_37 rfl (fun c37 => ?_) (fun c37 => ?_)
      · refine hv_iload_n h dX5_numberOfLeadingZeros_48 1 rfl rfl ?_
        refine hv_bipush h (16) dX5_numberOfLeadingZeros_49 (by decide) ?_
        refine hv_icmp_lt h 61 dX5_numberOfLeadingZeros_51 rfl (fun c51 => ?_) (fun c51 => ?_)
        · refine hv_iload_n h dX5_numberOfLeadingZeros_61 1 rfl rfl ?_
          refine hv_iconst h (4) dX5_numberOfLeadingZeros_62 (by decide) ?_
          refine hv_icmp_lt h 73 dX5_numberOfLeadingZeros_63 rfl (fun c63 => ?_) (fun c63 => ?_)
          · refine hv_iload_n h dX5_numberOfLeadingZeros_73 0 rfl rfl ?_
            refine hv_iload_n h dX5_numberOfLeadingZeros_74 1 rfl rfl ?_
            refine hv_iconst h (1) dX5_numberOfLeadingZeros_75 (by decide) ?_
            refine hv_iushr h dX5_numberOfLeadingZeros_76 ?_
            refine hv_isub h dX5_numberOfLeadingZeros_77 ?_
            exact hv_iret h hr hlk hQ dX5_numberOfLeadingZeros_78 ⟨(by simp [hj_nlz, hj_nl, c1, c22, c37, c51, c63]), rfl⟩
          · refine hv_iinc h (31 + Int32.ofInt (-2)) [(1, .int (31 + Int32.ofInt (-2))), (0, .int i0)] dX5_numberOfLeadingZeros_66 0 rfl rfl (by decide) rfl ?_
            refine hv_iload_n h dX5_numberOfLeadingZeros_69 1 rfl rfl ?_
            refine hv_iconst h (2) dX5_numberOfLeadingZeros_70 (by decide) ?_
            refine hv_iushr h dX5_numberOfLeadingZeros_71 ?_
            refine hv_istore_n h [(0, .int (hj_u i0 2)), (1, .int (31 + Int32.ofInt (-2)))] dX5_numberOfLeadingZeros_72 rfl (by decide) rfl ?_
            refine hv_iload_n h dX5_numberOfLeadingZeros_73 1 rfl rfl ?_
            refine hv_iload_n h dX5_numberOfLeadingZeros_74 0 rfl rfl ?_
            refine hv_iconst h (1) dX5_numberOfLeadingZeros_75 (by decide) ?_
            refine hv_iushr h dX5_numberOfLeadingZeros_76 ?_
            refine hv_isub h dX5_numberOfLeadingZeros_77 ?_
            exact hv_iret h hr hlk hQ dX5_numberOfLeadingZeros_78 ⟨(by simp [hj_nlz, hj_nl, c1, c22, c37, c51, c63]), rfl⟩
        · refine hv_iinc h (31 + Int32.ofInt (-4)) [(1, .int (31 + Int32.ofInt (-4))), (0, .int i0)] dX5_numberOfLeadingZeros_54 0 rfl rfl (by decide) rfl ?_
          refine hv_iload_n h dX5_numberOfLeadingZeros_57 1 rfl rfl ?_
          refine hv_iconst h (4) dX5_numberOfLeadingZeros_58 (by decide) ?_
          refine hv_iushr h dX5_numberOfLeadingZeros_59 ?_
          refine hv_istore_n h [(0, .int (hj_u i0 4)), (1, .int (31 + Int32.ofInt (-4)))] dX5_numberOfLeadingZeros_60 rfl (by decide) rfl ?_
          refine hv_iload_n h dX5_numberOfLeadingZeros_61 0 rfl rfl ?_
          refine hv_iconst h (4) dX5_numberOfLeadingZeros_62 (by decide) ?_
          refine hv_icmp_lt h 73 dX5_numberOfLeadingZeros_63 rfl (fun c63 => ?_) (fun c63 => ?_)
          · refine hv_iload_n h dX5_numberOfLeadingZeros_73 1 rfl rfl ?_
            refine hv_iload_n h dX5_numberOfLeadingZeros_74 0 rfl rfl ?_
            refine hv_iconst h (1) dX5_numberOfLeadingZeros_75 (by decide) ?_
            refine hv_iushr h dX5_numberOfLeadingZeros_76 ?_
            refine hv_isub h dX5_numberOfLeadingZeros_77 ?_
            exact hv_iret h hr hlk hQ dX5_numberOfLeadingZeros_78 ⟨(by simp [hj_nlz, hj_nl, c1, c22, c37, c51, c63]), rfl⟩
          · refine hv_iinc h ((31 + Int32.ofInt (-4)) + Int32.ofInt (-2)) [(1, .int ((31 + Int32.ofInt (-4)) + Int32.ofInt (-2))), (0, .int (hj_u i0 4))] dX5_numberOfLeadingZeros_66 1 rfl rfl (by decide) rfl ?_
            refine hv_iload_n h dX5_numberOfLeadingZeros_69 1 rfl rfl ?_
            refine hv_iconst h (2) dX5_numberOfLeadingZeros_70 (by decide) ?_
            refine hv_iushr h dX5_numberOfLeadingZeros_71 ?_
            refine hv_istore_n h [(0, .int (hj_u (hj_u i0 4) 2)), (1, .int ((31 + Int32.ofInt (-4)) + Int32.ofInt (-2)))] dX5_numberOfLeadingZeros_72 rfl (by decide) rfl ?_
            refine hv_iload_n h dX5_numberOfLeadingZeros_73 1 rfl rfl ?_
            refine hv_iload_n h dX5_numberOfLeadingZeros_74 0 rfl rfl ?_
            refine hv_iconst h (1) dX5_numberOfLeadingZeros_75 (by decide) ?_
            refine hv_iushr h dX5_numberOfLeadingZeros_76 ?_
            refine hv_isub h dX5_numberOfLeadingZeros_77 ?_
            exact hv_iret h hr hlk hQ dX5_numberOfLeadingZeros_78 ⟨(by simp [hj_nlz, hj_nl, c1, c22, c37, c51, c63]), rfl⟩
      · refine hv_iinc h (31 + Int32.ofInt (-8)) [(1, .int (31 + Int32.ofInt (-8))), (0, .int i0)] dX5_numberOfLeadingZeros_40 0 rfl rfl (by decide) rfl ?_
        refine hv_iload_n h dX5_numberOfLeadingZeros_43 1 rfl rfl ?_
        refine hv_bipush h (8) dX5_numberOfLeadingZeros_44 (by decide) ?_
        refine hv_iushr h dX5_numberOfLeadingZeros_46 ?_
        refine hv_istore_n h [(0, .int (hj_u i0 8)), (1, .int (31 + Int32.ofInt (-8)))] dX5_numberOfLeadingZeros_47 rfl (by decide) rfl ?_
        refine hv_iload_n h dX5_numberOfLeadingZeros_48 0 rfl rfl ?_
        refine hv_bipush h (16) dX5_numberOfLeadingZeros_49 (by decide) ?_
        refine hv_icmp_lt h 61 dX5_numberOfLeadingZeros_51 rfl (fun c51 => ?_) (fun c51 => ?_)
        · refine hv_iload_n h dX5_numberOfLeadingZeros_61 0 rfl rfl ?_
          refine hv_iconst h (4) dX5_numberOfLeadingZeros_62 (by decide) ?_
          refine hv_icmp_lt h 73 dX5_numberOfLeadingZeros_63 rfl (fun c63 => ?_) (fun c63 => ?_)
          · refine hv_iload_n h dX5_numberOfLeadingZeros_73 1 rfl rfl ?_
            refine hv_iload_n h dX5_numberOfLeadingZeros_74 0 rfl rfl ?_
            refine hv_iconst h (1) dX5_numberOfLeadingZeros_75 (by decide) ?_
            refine hv_iushr h dX5_numberOfLeadingZeros_76 ?_
            refine hv_isub h dX5_numberOfLeadingZeros_77 ?_
            exact hv_iret h hr hlk hQ dX5_numberOfLeadingZeros_78 ⟨(by simp [hj_nlz, hj_nl, c1, c22, c37, c51, c63]), rfl⟩
          · refine hv_iinc h ((31 + Int32.ofInt (-8)) + Int32.ofInt (-2)) [(1, .int ((31 + Int32.ofInt (-8)) + Int32.ofInt (-2))), (0, .int (hj_u i0 8))] dX5_numberOfLeadingZeros_66 1 rfl rfl (by decide) rfl ?_
            refine hv_iload_n h dX5_numberOfLeadingZeros_69 1 rfl rfl ?_
            refine hv_iconst h (2) dX5_numberOfLeadingZeros_70 (by decide) ?_
            refine hv_iushr h dX5_numberOfLeadingZeros_71 ?_
            refine hv_istore_n h [(0, .int (hj_u (hj_u i0 8) 2)), (1, .int ((31 + Int32.ofInt (-8)) + Int32.ofInt (-2)))] dX5_numberOfLeadingZeros_72 rfl (by decide) rfl ?_
            refine hv_iload_n h dX5_numberOfLeadingZeros_73 1 rfl rfl ?_
            refine hv_iload_n h dX5_numberOfLeadingZeros_74 0 rfl rfl ?_
            refine hv_iconst h (1) dX5_numberOfLeadingZeros_75 (by decide) ?_
            refine hv_iushr h dX5_numberOfLeadingZeros_76 ?_
            refine hv_isub h dX5_numberOfLeadingZeros_77 ?_
            exact hv_iret h hr hlk hQ dX5_numberOfLeadingZeros_78 ⟨(by simp [hj_nlz, hj_nl, c1, c22, c37, c51, c63]), rfl⟩
        · refine hv_iinc h ((31 + Int32.ofInt (-8)) + Int32.ofInt (-4)) [(1, .int ((31 + Int32.ofInt (-8)) + Int32.ofInt (-4))), (0, .int (hj_u i0 8))] dX5_numberOfLeadingZeros_54 1 rfl rfl (by decide) rfl ?_
          refine hv_iload_n h dX5_numberOfLeadingZeros_57 1 rfl rfl ?_
          refine hv_iconst h (4) dX5_numberOfLeadingZeros_58 (by decide) ?_
          refine hv_iushr h dX5_numberOfLeadingZeros_59 ?_
          refine hv_istore_n h [(0, .int (hj_u (hj_u i0 8) 4)), (1, .int ((31 + Int32.ofInt (-8)) + Int32.ofInt (-4)))] dX5_numberOfLeadingZeros_60 rfl (by decide) rfl ?_
          refine hv_iload_n h dX5_numberOfLeadingZeros_61 0 rfl rfl ?_
          refine hv_iconst h (4) dX5_numberOfLeadingZeros_62 (by decide) ?_
          refine hv_icmp_lt h 73 dX5_numberOfLeadingZeros_63 rfl (fun c63 => ?_) (fun c63 => ?_)
          · refine hv_iload_n h dX5_numberOfLeadingZeros_73 1 rfl rfl ?_
            refine hv_iload_n h dX5_numberOfLeadingZeros_74 0 rfl rfl ?_
            refine hv_iconst h (1) dX5_numberOfLeadingZeros_75 (by decide) ?_
            refine hv_iushr h dX5_numberOfLeadingZeros_76 ?_
            refine hv_isub h dX5_numberOfLeadingZeros_77 ?_
            exact hv_iret h hr hlk hQ dX5_numberOfLeadingZeros_78 ⟨(by simp [hj_nlz, hj_nl, c1, c22, c37, c51, c63]), rfl⟩
          · refine hv_iinc h (((31 + Int32.ofInt (-8)) + Int32.ofInt (-4)) + Int32.ofInt (-2)) [(1, .int (((31 + Int32.ofInt (-8)) + Int32.ofInt (-4)) + Int32.ofInt (-2))), (0, .int (hj_u (hj_u i0 8) 4))] dX5_numberOfLeadingZeros_66 1 rfl rfl (by decide) rfl ?_
            refine hv_iload_n h dX5_numberOfLeadingZeros_69 1 rfl rfl ?_
            refine hv_iconst h (2) dX5_numberOfLeadingZeros_70 (by decide) ?_
            refine hv_iushr h dX5_numberOfLeadingZeros_71 ?_
            refine hv_istore_n h [(0, .int (hj_u (hj_u (hj_u i0 8) 4) 2)), (1, .int (((31 + Int32.ofInt (-8)) + Int32.ofInt (-4)) + Int32.ofInt (-2)))] dX5_numberOfLeadingZeros_72 rfl (by decide) rfl ?_
            refine hv_iload_n h dX5_numberOfLeadingZeros_73 1 rfl rfl ?_
            refine hv_iload_n h dX5_numberOfLeadingZeros_74 0 rfl rfl ?_
            refine hv_iconst h (1) dX5_numberOfLeadingZeros_75 (by decide) ?_
            refine hv_iushr h dX5_numberOfLeadingZeros_76 ?_
            refine hv_isub h dX5_numberOfLeadingZeros_77 ?_
            exact hv_iret h hr hlk hQ dX5_numberOfLeadingZeros_78 ⟨(by simp [hj_nlz, hj_nl, c1, c22, c37, c51, c63]), rfl⟩
    · refine hv_iinc h (31 + Int32.ofInt (-16)) [(1, .int (31 + Int32.ofInt (-16))), (0, .int i0)] dX5_numberOfLeadingZeros_25 0 rfl rfl (by decide) rfl ?_
      refine hv_iload_n h dX5_numberOfLeadingZeros_28 1 rfl rfl ?_
      refine hv_bipush h (16) dX5_numberOfLeadingZeros_29 (by decide) ?_
      refine hv_iushr h dX5_numberOfLeadingZeros_31 ?_
      refine hv_istore_n h [(0, .int (hj_u i0 16)), (1, .int (31 + Int32.ofInt (-16)))] dX5_numberOfLeadingZeros_32 rfl (by decide) rfl ?_
      refine hv_iload_n h dX5_numberOfLeadingZeros_33 0 rfl rfl ?_
      refine hv_sipush h (256) dX5_numberOfLeadingZeros_34 (by decide) ?_
      refine hv_icmp_lt h 48 dX5_numberOfLeadingZeros_37 rfl (fun c37 => ?_) (fun c37 => ?_)
      · refine hv_iload_n h dX5_numberOfLeadingZeros_48 0 rfl rfl ?_
        refine hv_bipush h (16) dX5_numberOfLeadingZeros_49 (by decide) ?_
        refine hv_icmp_lt h 61 dX5_numberOfLeadingZeros_51 rfl (fun c51 => ?_) (fun c51 => ?_)
        · refine hv_iload_n h dX5_numberOfLeadingZeros_61 0 rfl rfl ?_
          refine hv_iconst h (4) dX5_numberOfLeadingZeros_62 (by decide) ?_
          refine hv_icmp_lt h 73 dX5_numberOfLeadingZeros_63 rfl (fun c63 => ?_) (fun c63 => ?_)
          · refine hv_iload_n h dX5_numberOfLeadingZeros_73 1 rfl rfl ?_
            refine hv_iload_n h dX5_numberOfLeadingZeros_74 0 rfl rfl ?_
            refine hv_iconst h (1) dX5_numberOfLeadingZeros_75 (by decide) ?_
            refine hv_iushr h dX5_numberOfLeadingZeros_76 ?_
            refine hv_isub h dX5_numberOfLeadingZeros_77 ?_
            exact hv_iret h hr hlk hQ dX5_numberOfLeadingZeros_78 ⟨(by simp [hj_nlz, hj_nl, c1, c22, c37, c51, c63]), rfl⟩
          · refine hv_iinc h ((31 + Int32.ofInt (-16)) + Int32.ofInt (-2)) [(1, .int ((31 + Int32.ofInt (-16)) + Int32.ofInt (-2))), (0, .int (hj_u i0 16))] dX5_numberOfLeadingZeros_66 1 rfl rfl (by decide) rfl ?_
            refine hv_iload_n h dX5_numberOfLeadingZeros_69 1 rfl rfl ?_
            refine hv_iconst h (2) dX5_numberOfLeadingZeros_70 (by decide) ?_
            refine hv_iushr h dX5_numberOfLeadingZeros_71 ?_
            refine hv_istore_n h [(0, .int (hj_u (hj_u i0 16) 2)), (1, .int ((31 + Int32.ofInt (-16)) + Int32.ofInt (-2)))] dX5_numberOfLeadingZeros_72 rfl (by decide) rfl ?_
            refine hv_iload_n h dX5_numberOfLeadingZeros_73 1 rfl rfl ?_
            refine hv_iload_n h dX5_numberOfLeadingZeros_74 0 rfl rfl ?_
            refine hv_iconst h (1) dX5_numberOfLeadingZeros_75 (by decide) ?_
            refine hv_iushr h dX5_numberOfLeadingZeros_76 ?_
            refine hv_isub h dX5_numberOfLeadingZeros_77 ?_
            exact hv_iret h hr hlk hQ dX5_numberOfLeadingZeros_78 ⟨(by simp [hj_nlz, hj_nl, c1, c22, c37, c51, c63]), rfl⟩
        · refine hv_iinc h ((31 + Int32.ofInt (-16)) + Int32.ofInt (-4)) [(1, .int ((31 + Int32.ofInt (-16)) + Int32.ofInt (-4))), (0, .int (hj_u i0 16))] dX5_numberOfLeadingZeros_54 1 rfl rfl (by decide) rfl ?_
          refine hv_iload_n h dX5_numberOfLeadingZeros_57 1 rfl rfl ?_
          refine hv_iconst h (4) dX5_numberOfLeadingZeros_58 (by decide) ?_
          refine hv_iushr h dX5_numberOfLeadingZeros_59 ?_
          refine hv_istore_n h [(0, .int (hj_u (hj_u i0 16) 4)), (1, .int ((31 + Int32.ofInt (-16)) + Int32.ofInt (-4)))] dX5_numberOfLeadingZeros_60 rfl (by decide) rfl ?_
          refine hv_iload_n h dX5_numberOfLeadingZeros_61 0 rfl rfl ?_
          refine hv_iconst h (4) dX5_numberOfLeadingZeros_62 (by decide) ?_
          refine hv_icmp_lt h 73 dX5_numberOfLeadingZeros_63 rfl (fun c63 => ?_) (fun c63 => ?_)
          · refine hv_iload_n h dX5_numberOfLeadingZeros_73 1 rfl rfl ?_
            refine hv_iload_n h dX5_numberOfLeadingZeros_74 0 rfl rfl ?_
            refine hv_iconst h (1) dX5_numberOfLeadingZeros_75 (by decide) ?_
            refine hv_iushr h dX5_numberOfLeadingZeros_76 ?_
            refine hv_isub h dX5_numberOfLeadingZeros_77 ?_
            exact hv_iret h hr hlk hQ dX5_numberOfLeadingZeros_78 ⟨(by simp [hj_nlz, hj_nl, c1, c22, c37, c51, c63]), rfl⟩
          · refine hv_iinc h (((31 + Int32.ofInt (-16)) + Int32.ofInt (-4)) + Int32.ofInt (-2)) [(1, .int (((31 + Int32.ofInt (-16)) + Int32.ofInt (-4)) + Int32.ofInt (-2))), (0, .int (hj_u (hj_u i0 16) 4))] dX5_numberOfLeadingZeros_66 1 rfl rfl (by decide) rfl ?_
            refine hv_iload_n h dX5_numberOfLeadingZeros_69 1 rfl rfl ?_
            refine hv_iconst h (2) dX5_numberOfLeadingZeros_70 (by decide) ?_
            refine hv_iushr h dX5_numberOfLeadingZeros_71 ?_
            refine hv_istore_n h [(0, .int (hj_u (hj_u (hj_u i0 16) 4) 2)), (1, .int (((31 + Int32.ofInt (-16)) + Int32.ofInt (-4)) + Int32.ofInt (-2)))] dX5_numberOfLeadingZeros_72 rfl (by decide) rfl ?_
            refine hv_iload_n h dX5_numberOfLeadingZeros_73 1 rfl rfl ?_
            refine hv_iload_n h dX5_numberOfLeadingZeros_74 0 rfl rfl ?_
            refine hv_iconst h (1) dX5_numberOfLeadingZeros_75 (by decide) ?_
            refine hv_iushr h dX5_numberOfLeadingZeros_76 ?_
            refine hv_isub h dX5_numberOfLeadingZeros_77 ?_
            exact hv_iret h hr hlk hQ dX5_numberOfLeadingZeros_78 ⟨(by simp [hj_nlz, hj_nl, c1, c22, c37, c51, c63]), rfl⟩
      · refine hv_iinc h ((31 + Int32.ofInt (-16)) + Int32.ofInt (-8)) [(1, .int ((31 + Int32.ofInt (-16)) + Int32.ofInt (-8))), (0, .int (hj_u i0 16))] dX5_numberOfLeadingZeros_40 1 rfl rfl (by decide) rfl ?_
        refine hv_iload_n h dX5_numberOfLeadingZeros_43 1 rfl rfl ?_
        refine hv_bipush h (8) dX5_numberOfLeadingZeros_44 (by decide) ?_
        refine hv_iushr h dX5_numberOfLeadingZeros_46 ?_
        refine hv_istore_n h [(0, .int (hj_u (hj_u i0 16) 8)), (1, .int ((31 + Int32.ofInt (-16)) + Int32.ofInt (-8)))] dX5_numberOfLeadingZeros_47 rfl (by decide) rfl ?_
        refine hv_iload_n h dX5_numberOfLeadingZeros_48 0 rfl rfl ?_
        refine hv_bipush h (16) dX5_numberOfLeadingZeros_49 (by decide) ?_
        refine hv_icmp_lt h 61 dX5_numberOfLeadingZeros_51 rfl (fun c51 => ?_) (fun c51 => ?_)
        · refine hv_iload_n h dX5_numberOfLeadingZeros_61 0 rfl rfl ?_
          refine hv_iconst h (4) dX5_numberOfLeadingZeros_62 (by decide) ?_
          refine hv_icmp_lt h 73 dX5_numberOfLeadingZeros_63 rfl (fun c63 => ?_) (fun c63 => ?_)
          · refine hv_iload_n h dX5_numberOfLeadingZeros_73 1 rfl rfl ?_
            refine hv_iload_n h dX5_numberOfLeadingZeros_74 0 rfl rfl ?_
            refine hv_iconst h (1) dX5_numberOfLeadingZeros_75 (by decide) ?_
            refine hv_iushr h dX5_numberOfLeadingZeros_76 ?_
            refine hv_isub h dX5_numberOfLeadingZeros_77 ?_
            exact hv_iret h hr hlk hQ dX5_numberOfLeadingZeros_78 ⟨(by simp [hj_nlz, hj_nl, c1, c22, c37, c51, c63]), rfl⟩
          · refine hv_iinc h (((31 + Int32.ofInt (-16)) + Int32.ofInt (-8)) + Int32.ofInt (-2)) [(1, .int (((31 + Int32.ofInt (-16)) + Int32.ofInt (-8)) + Int32.ofInt (-2))), (0, .int (hj_u (hj_u i0 16) 8))] dX5_numberOfLeadingZeros_66 1 rfl rfl (by decide) rfl ?_
            refine hv_iload_n h dX5_numberOfLeadingZeros_69 1 rfl rfl ?_
            refine hv_iconst h (2) dX5_numberOfLeadingZeros_70 (by decide) ?_
            refine hv_iushr h dX5_numberOfLeadingZeros_71 ?_
            refine hv_istore_n h [(0, .int (hj_u (hj_u (hj_u i0 16) 8) 2)), (1, .int (((31 + Int32.ofInt (-16)) + Int32.ofInt (-8)) + Int32.ofInt (-2)))] dX5_numberOfLeadingZeros_72 rfl (by decide) rfl ?_
            refine hv_iload_n h dX5_numberOfLeadingZeros_73 1 rfl rfl ?_
            refine hv_iload_n h dX5_numberOfLeadingZeros_74 0 rfl rfl ?_
            refine hv_iconst h (1) dX5_numberOfLeadingZeros_75 (by decide) ?_
            refine hv_iushr h dX5_numberOfLeadingZeros_76 ?_
            refine hv_isub h dX5_numberOfLeadingZeros_77 ?_
            exact hv_iret h hr hlk hQ dX5_numberOfLeadingZeros_78 ⟨(by simp [hj_nlz, hj_nl, c1, c22, c37, c51, c63]), rfl⟩
        · refine hv_iinc h (((31 + Int32.ofInt (-16)) + Int32.ofInt (-8)) + Int32.ofInt (-4)) [(1, .int (((31 + Int32.ofInt (-16)) + Int32.ofInt (-8)) + Int32.ofInt (-4))), (0, .int (hj_u (hj_u i0 16) 8))] dX5_numberOfLeadingZeros_54 1 rfl rfl (by decide) rfl ?_
          refine hv_iload_n h dX5_numberOfLeadingZeros_57 1 rfl rfl ?_
          refine hv_iconst h (4) dX5_numberOfLeadingZeros_58 (by decide) ?_
          refine hv_iushr h dX5_numberOfLeadingZeros_59 ?_
          refine hv_istore_n h [(0, .int (hj_u (hj_u (hj_u i0 16) 8) 4)), (1, .int (((31 + Int32.ofInt (-16)) + Int32.ofInt (-8)) + Int32.ofInt (-4)))] dX5_numberOfLeadingZeros_60 rfl (by decide) rfl ?_
          refine hv_iload_n h dX5_numberOfLeadingZeros_61 0 rfl rfl ?_
          refine hv_iconst h (4) dX5_numberOfLeadingZeros_62 (by decide) ?_
          refine hv_icmp_lt h 73 dX5_numberOfLeadingZeros_63 rfl (fun c63 => ?_) (fun c63 => ?_)
          · refine hv_iload_n h dX5_numberOfLeadingZeros_73 1 rfl rfl ?_
            refine hv_iload_n h dX5_numberOfLeadingZeros_74 0 rfl rfl ?_
            refine hv_iconst h (1) dX5_numberOfLeadingZeros_75 (by decide) ?_
            refine hv_iushr h dX5_numberOfLeadingZeros_76 ?_
            refine hv_isub h dX5_numberOfLeadingZeros_77 ?_
            exact hv_iret h hr hlk hQ dX5_numberOfLeadingZeros_78 ⟨(by simp [hj_nlz, hj_nl, c1, c22, c37, c51, c63]), rfl⟩
          · refine hv_iinc h ((((31 + Int32.ofInt (-16)) + Int32.ofInt (-8)) + Int32.ofInt (-4)) + Int32.ofInt (-2)) [(1, .int ((((31 + Int32.ofInt (-16)) + Int32.ofInt (-8)) + Int32.ofInt (-4)) + Int32.ofInt (-2))), (0, .int (hj_u (hj_u (hj_u i0 16) 8) 4))] dX5_numberOfLeadingZeros_66 1 rfl rfl (by decide) rfl ?_
            refine hv_iload_n h dX5_numberOfLeadingZeros_69 1 rfl rfl ?_
            refine hv_iconst h (2) dX5_numberOfLeadingZeros_70 (by decide) ?_
            refine hv_iushr h dX5_numberOfLeadingZeros_71 ?_
            refine hv_istore_n h [(0, .int (hj_u (hj_u (hj_u (hj_u i0 16) 8) 4) 2)), (1, .int ((((31 + Int32.ofInt (-16)) + Int32.ofInt (-8)) + Int32.ofInt (-4)) + Int32.ofInt (-2)))] dX5_numberOfLeadingZeros_72 rfl (by decide) rfl ?_
            refine hv_iload_n h dX5_numberOfLeadingZeros_73 1 rfl rfl ?_
            refine hv_iload_n h dX5_numberOfLeadingZeros_74 0 rfl rfl ?_
            refine hv_iconst h (1) dX5_numberOfLeadingZeros_75 (by decide) ?_
            refine hv_iushr h dX5_numberOfLeadingZeros_76 ?_
            refine hv_isub h dX5_numberOfLeadingZeros_77 ?_
            exact hv_iret h hr hlk hQ dX5_numberOfLeadingZeros_78 ⟨(by simp [hj_nlz, hj_nl, c1, c22, c37, c51, c63]), rfl⟩
  · refine hv_iload_n h dX5_numberOfLeadingZeros_4 0 rfl rfl ?_
    refine hv_if_ne h 13 dX5_numberOfLeadingZeros_5 rfl (fun c5 => ?_) (fun c5 => ?_)
    · refine hv_iconst h (0) dX5_numberOfLeadingZeros_13 (by decide) ?_
      exact hv_iret h hr hlk hQ dX5_numberOfLeadingZeros_14 ⟨(by simp [hj_nlz, hj_nl, c1, c5]), rfl⟩
    · refine hv_bipush h (32) dX5_numberOfLeadingZeros_8 (by decide) ?_
      refine hv_goto h 14 dX5_numberOfLeadingZeros_10 rfl ?_
      exact hv_iret h hr hlk hQ dX5_numberOfLeadingZeros_14 ⟨(by simp [hj_nlz, hj_nl, c1, c5]), rfl⟩
abbrev rX5_numberOfTrailingZeros : Room := { frames := 0, cells := 0, slots := 0, locals := 0 }
set_option maxHeartbeats 4000000 in
set_option maxRecDepth 100000 in
theorem k_X5_numberOfTrailingZeros (l : Launch) (D : va_G) (cI cC : ClassId) (ws : va_W) (i0 : Int32) : hsI l yX5_numberOfTrailingZeros wsX5_numberOfTrailingZeros rX5_numberOfTrailingZeros D vwCl (hsT cI cC) [.int i0] ws (fun r w => r = hj_ntz i0 ∧ w = ws) := by
  refine hsI.enter (cc := cX5_numberOfTrailingZeros) (maxL := 2) (ret := (some .int)) (by decide) rfl (Nat.le_of_ble_eq_true rfl) ?_
  intro Pg En Ss Mi Ar Be Me Co AA QQ hQ h hr hlk
  refine hs_lv (lv' := [(0, .int i0)]) rfl ?_
  refine hv_iload_n h dX5_numberOfTrailingZeros_0 0 rfl rfl ?_
  refine hv_iconst h ((-1)) dX5_numberOfTrailingZeros_1 (by decide) ?_
  refine hv_ixor h dX5_numberOfTrailingZeros_2 ?_
  refine hv_iload_n h dX5_numberOfTrailingZeros_3 0 rfl rfl ?_
  refine hv_iconst h (1) dX5_numberOfTrailingZeros_4 (by decide) ?_
  refine hv_isub h dX5_numberOfTrailingZeros_5 ?_
  refine hv_iand h dX5_numberOfTrailingZeros_6 ?_
  refine hv_istore_n h [(0, .int ((i0 ^^^ (-1)) &&& (i0 - 1)))] dX5_numberOfTrailingZeros_7 rfl (by decide) rfl ?_
  refine hs_lv (lv' := [(0, .int (hj_ntm i0))]) rfl ?_
  refine hv_iload_n h dX5_numberOfTrailingZeros_8 0 rfl rfl ?_
  refine hv_if_gt h 17 dX5_numberOfTrailingZeros_9 rfl (fun c9 => ?_) (fun c9 => ?_)
  · refine hv_iconst h (1) dX5_numberOfTrailingZeros_17 (by decide) ?_
    refine hv_istore_n h [(1, .int 1), (0, .int (hj_ntm i0))] dX5_numberOfTrailingZeros_18 rfl (by decide) rfl ?_
    refine hv_iload_n h dX5_numberOfTrailingZeros_19 1 rfl rfl ?_
    refine hv_ldcw h (65536) w_constant_X5_264 dX5_numberOfTrailingZeros_20 ?_
    refine hv_icmp_le h 34 dX5_numberOfTrailingZeros_23 rfl (fun c23 => ?_) (fun c23 => ?_)
    · refine hv_iload_n h dX5_numberOfTrailingZeros_34 1 rfl rfl ?_
      refine hv_sipush h (256) dX5_numberOfTrailingZeros_35 (by decide) ?_
      refine hv_icmp_le h 49 dX5_numberOfTrailingZeros_38 rfl (fun c38 => ?_) (fun c38 => ?_)
      · refine hv_iload_n h dX5_numberOfTrailingZeros_49 1 rfl rfl ?_
        refine hv_bipush h (16) dX5_numberOfTrailingZeros_50 (by decide) ?_
        refine hv_icmp_le h 62 dX5_numberOfTrailingZeros_52 rfl (fun c52 => ?_) (fun c52 => ?_)
        · refine hv_iload_n h dX5_numberOfTrailingZeros_62 1 rfl rfl ?_
          refine hv_iconst h (4) dX5_numberOfTrailingZeros_63 (by decide) ?_
          refine hv_icmp_le h 74 dX5_numberOfTrailingZeros_64 rfl (fun c64 => ?_) (fun c64 => ?_)
          · refine hv_iload_n h dX5_numberOfTrailingZeros_74 0 rfl rfl ?_
            refine hv_iload_n h dX5_numberOfTrailingZeros_75 1 rfl rfl ?_
            refine hv_iconst h (1) dX5_numberOfTrailingZeros_76 (by decide) ?_
            refine hv_iushr h dX5_numberOfTrailingZeros_77 ?_
            refine hv_iadd h dX5_numberOfTrailingZeros_78 ?_
            exact hv_iret h hr hlk hQ dX5_numberOfTrailingZeros_79 ⟨(by simp [hj_ntz, hj_nt, c9, c23, c38, c52, c64]), rfl⟩
          · refine hv_iinc h (1 + Int32.ofInt (2)) [(1, .int (1 + Int32.ofInt (2))), (0, .int (hj_ntm i0))] dX5_numberOfTrailingZeros_67 0 rfl rfl (by decide) rfl ?_
            refine hv_iload_n h dX5_numberOfTrailingZeros_70 1 rfl rfl ?_
            refine hv_iconst h (2) dX5_numberOfTrailingZeros_71 (by decide) ?_
            refine hv_iushr h dX5_numberOfTrailingZeros_72 ?_
            refine hv_istore_n h [(0, .int (hj_u (hj_ntm i0) 2)), (1, .int (1 + Int32.ofInt (2)))] dX5_numberOfTrailingZeros_73 rfl (by decide) rfl ?_
            refine hv_iload_n h dX5_numberOfTrailingZeros_74 1 rfl rfl ?_
            refine hv_iload_n h dX5_numberOfTrailingZeros_75 0 rfl rfl ?_
            refine hv_iconst h (1) dX5_numberOfTrailingZeros_76 (by decide) ?_
            refine hv_iushr h dX5_numberOfTrailingZeros_77 ?_
            refine hv_iadd h dX5_numberOfTrailingZeros_78 ?_
            exact hv_iret h hr hlk hQ dX5_numberOfTrailingZeros_79 ⟨(by simp [hj_ntz, hj_nt, c9, c23, c38, c52, c64]), rfl⟩
        · refine hv_iinc h (1 + Int32.ofInt (4)) [(1, .int (1 + Int32.ofInt (4))), (0, .int (hj_ntm i0))] dX5_numberOfTrailingZeros_55 0 rfl rfl (by decide) rfl ?_
          refine hv_iload_n h dX5_numberOfTrailingZeros_58 1 rfl rfl ?_
          refine hv_iconst h (4) dX5_numberOfTrailingZeros_59 (by decide) ?_
          refine hv_iushr h dX5_numberOfTrailingZeros_60 ?_
          refine hv_istore_n h [(0, .int (hj_u (hj_ntm i0) 4)), (1, .int (1 + Int32.ofInt (4)))] dX5_numberOfTrailingZeros_61 rfl (by decide) rfl ?_
          refine hv_iload_n h dX5_numberOfTrailingZeros_62 0 rfl rfl ?_
          refine hv_iconst h (4) dX5_numberOfTrailingZeros_63 (by decide) ?_
          refine hv_icmp_le h 74 dX5_numberOfTrailingZeros_64 rfl (fun c64 => ?_) (fun c64 => ?_)
          · refine hv_iload_n h dX5_numberOfTrailingZeros_74 1 rfl rfl ?_
            refine hv_iload_n h dX5_numberOfTrailingZeros_75 0 rfl rfl ?_
            refine hv_iconst h (1) dX5_numberOfTrailingZeros_76 (by decide) ?_
            refine hv_iushr h dX5_numberOfTrailingZeros_77 ?_
            refine hv_iadd h dX5_numberOfTrailingZeros_78 ?_
            exact hv_iret h hr hlk hQ dX5_numberOfTrailingZeros_79 ⟨(by simp [hj_ntz, hj_nt, c9, c23, c38, c52, c64]), rfl⟩
          · refine hv_iinc h ((1 + Int32.ofInt (4)) + Int32.ofInt (2)) [(1, .int ((1 + Int32.ofInt (4)) + Int32.ofInt (2))), (0, .int (hj_u (hj_ntm i0) 4))] dX5_numberOfTrailingZeros_67 1 rfl rfl (by decide) rfl ?_
            refine hv_iload_n h dX5_numberOfTrailingZeros_70 1 rfl rfl ?_
            refine hv_iconst h (2) dX5_numberOfTrailingZeros_71 (by decide) ?_
            refine hv_iushr h dX5_numberOfTrailingZeros_72 ?_
            refine hv_istore_n h [(0, .int (hj_u (hj_u (hj_ntm i0) 4) 2)), (1, .int ((1 + Int32.ofInt (4)) + Int32.ofInt (2)))] dX5_numberOfTrailingZeros_73 rfl (by decide) rfl ?_
            refine hv_iload_n h dX5_numberOfTrailingZeros_74 1 rfl rfl ?_
            refine hv_iload_n h dX5_numberOfTrailingZeros_75 0 rfl rfl ?_
            refine hv_iconst h (1) dX5_numberOfTrailingZeros_76 (by decide) ?_
            refine hv_iushr h dX5_numberOfTrailingZeros_77 ?_
            refine hv_iadd h dX5_numberOfTrailingZeros_78 ?_
            exact hv_iret h hr hlk hQ dX5_numberOfTrailingZeros_79 ⟨(by simp [hj_ntz, hj_nt, c9, c23, c38, c52, c64]), rfl⟩
      · refine hv_iinc h (1 + Int32.ofInt (8)) [(1, .int (1 + Int32.ofInt (8))), (0, .int (hj_ntm i0))] dX5_numberOfTrailingZeros_41 0 rfl rfl (by decide) rfl ?_
        refine hv_iload_n h dX5_numberOfTrailingZeros_44 1 rfl rfl ?_
        refine hv_bipush h (8) dX5_numberOfTrailingZeros_45 (by decide) ?_
        refine hv_iushr h dX5_numberOfTrailingZeros_47 ?_
        refine hv_istore_n h [(0, .int (hj_u (hj_ntm i0) 8)), (1, .int (1 + Int32.ofInt (8)))] dX5_numberOfTrailingZeros_48 rfl (by decide) rfl ?_
        refine hv_iload_n h dX5_numberOfTrailingZeros_49 0 rfl rfl ?_
        refine hv_bipush h (16) dX5_numberOfTrailingZeros_50 (by decide) ?_
        refine hv_icmp_le h 62 dX5_numberOfTrailingZeros_52 rfl (fun c52 => ?_) (fun c52 => ?_)
        · refine hv_iload_n h dX5_numberOfTrailingZeros_62 0 rfl rfl ?_
          refine hv_iconst h (4) dX5_numberOfTrailingZeros_63 (by decide) ?_
          refine hv_icmp_le h 74 dX5_numberOfTrailingZeros_64 rfl (fun c64 => ?_) (fun c64 => ?_)
          · refine hv_iload_n h dX5_numberOfTrailingZeros_74 1 rfl rfl ?_
            refine hv_iload_n h dX5_numberOfTrailingZeros_75 0 rfl rfl ?_
            refine hv_iconst h (1) dX5_numberOfTrailingZeros_76 (by decide) ?_
            refine hv_iushr h dX5_numberOfTrailingZeros_77 ?_
            refine hv_iadd h dX5_numberOfTrailingZeros_78 ?_
            exact hv_iret h hr hlk hQ dX5_numberOfTrailingZeros_79 ⟨(by simp [hj_ntz, hj_nt, c9, c23, c38, c52, c64]), rfl⟩
          · refine hv_iinc h ((1 + Int32.ofInt (8)) + Int32.ofInt (2)) [(1, .int ((1 + Int32.ofInt (8)) + Int32.ofInt (2))), (0, .int (hj_u (hj_ntm i0) 8))] dX5_numberOfTrailingZeros_67 1 rfl rfl (by decide) rfl ?_
            refine hv_iload_n h dX5_numberOfTrailingZeros_70 1 rfl rfl ?_
            refine hv_iconst h (2) dX5_numberOfTrailingZeros_71 (by decide) ?_
            refine hv_iushr h dX5_numberOfTrailingZeros_72 ?_
            refine hv_istore_n h [(0, .int (hj_u (hj_u (hj_ntm i0) 8) 2)), (1, .int ((1 + Int32.ofInt (8)) + Int32.ofInt (2)))] dX5_numberOfTrailingZeros_73 rfl (by decide) rfl ?_
            refine hv_iload_n h dX5_numberOfTrailingZeros_74 1 rfl rfl ?_
            refine hv_iload_n h dX5_numberOfTrailingZeros_75 0 rfl rfl ?_
            refine hv_iconst h (1) dX5_numberOfTrailingZeros_76 (by decide) ?_
            refine hv_iushr h dX5_numberOfTrailingZeros_77 ?_
            refine hv_iadd h dX5_numberOfTrailingZeros_78 ?_
            exact hv_iret h hr hlk hQ dX5_numberOfTrailingZeros_79 ⟨(by simp [hj_ntz, hj_nt, c9, c23, c38, c52, c64]), rfl⟩
        · refine hv_iinc h ((1 + Int32.ofInt (8)) + Int32.ofInt (4)) [(1, .int ((1 + Int32.ofInt (8)) + Int32.ofInt (4))), (0, .int (hj_u (hj_ntm i0) 8))] dX5_numberOfTrailingZeros_55 1 rfl rfl (by decide) rfl ?_
          refine hv_iload_n h dX5_numberOfTrailingZeros_58 1 rfl rfl ?_
          refine hv_iconst h (4) dX5_numberOfTrailingZeros_59 (by decide) ?_
          refine hv_iushr h dX5_numberOfTrailingZeros_60 ?_
          refine hv_istore_n h [(0, .int (hj_u (hj_u (hj_ntm i0) 8) 4)), (1, .int ((1 + Int32.ofInt (8)) + Int32.ofInt (4)))] dX5_numberOfTrailingZeros_61 rfl (by decide) rfl ?_
          refine hv_iload_n h dX5_numberOfTrailingZeros_62 0 rfl rfl ?_
          refine hv_iconst h (4) dX5_numberOfTrailingZeros_63 (by decide) ?_
          refine hv_icmp_le h 74 dX5_numberOfTrailingZeros_64 rfl (fun c64 => ?_) (fun c64 => ?_)
          · refine hv_iload_n h dX5_numberOfTrailingZeros_74 1 rfl rfl ?_
            refine hv_iload_n h dX5_numberOfTrailingZeros_75 0 rfl rfl ?_
            refine hv_iconst h (1) dX5_numberOfTrailingZeros_76 (by decide) ?_
            refine hv_iushr h dX5_numberOfTrailingZeros_77 ?_
            refine hv_iadd h dX5_numberOfTrailingZeros_78 ?_
            exact hv_iret h hr hlk hQ dX5_numberOfTrailingZeros_79 ⟨(by simp [hj_ntz, hj_nt, c9, c23, c38, c52, c64]), rfl⟩
          · refine hv_iinc h (((1 + Int32.ofInt (8)) + Int32.ofInt (4)) + Int32.ofInt (2)) [(1, .int (((1 + Int32.ofInt (8)) + Int32.ofInt (4)) + Int32.ofInt (2))), (0, .int (hj_u (hj_u (hj_ntm i0) 8) 4))] dX5_numberOfTrailingZeros_67 1 rfl rfl (by decide) rfl ?_
            refine hv_iload_n h dX5_numberOfTrailingZeros_70 1 rfl rfl ?_
            refine hv_iconst h (2) dX5_numberOfTrailingZeros_71 (by decide) ?_
            refine hv_iushr h dX5_numberOfTrailingZeros_72 ?_
            refine hv_istore_n h [(0, .int (hj_u (hj_u (hj_u (hj_ntm i0) 8) 4) 2)), (1, .int (((1 + Int32.ofInt (8)) + Int32.ofInt (4)) + Int32.ofInt (2)))] dX5_numberOfTrailingZeros_73 rfl (by decide) rfl ?_
            refine hv_iload_n h dX5_numberOfTrailingZeros_74 1 rfl rfl ?_
            refine hv_iload_n h dX5_numberOfTrailingZeros_75 0 rfl rfl ?_
            refine hv_iconst h (1) dX5_numberOfTrailingZeros_76 (by decide) ?_
            refine hv_iushr h dX5_numberOfTrailingZeros_77 ?_
            refine hv_iadd h dX5_numberOfTrailingZeros_78 ?_
            exact hv_iret h hr hlk hQ dX5_numberOfTrailingZeros_79 ⟨(by simp [hj_ntz, hj_nt, c9, c23, c38, c52, c64]), rfl⟩
    · refine hv_iinc h (1 + Int32.ofInt (16)) [(1, .int (1 + Int32.ofInt (16))), (0, .int (hj_ntm i0))] dX5_numberOfTrailingZeros_26 0 rfl rfl (by decide) rfl ?_
      refine hv_iload_n h dX5_numberOfTrailingZeros_29 1 rfl rfl ?_
      refine hv_bipush h (16) dX5_numberOfTrailingZeros_30 (by decide) ?_
      refine hv_iushr h dX5_numberOfTrailingZeros_32 ?_
      refine hv_istore_n h [(0, .int (hj_u (hj_ntm i0) 16)), (1, .int (1 + Int32.ofInt (16)))] dX5_numberOfTrailingZeros_33 rfl (by decide) rfl ?_
      refine hv_iload_n h dX5_numberOfTrailingZeros_34 0 rfl rfl ?_
      refine hv_sipush h (256) dX5_numberOfTrailingZeros_35 (by decide) ?_
      refine hv_icmp_le h 49 dX5_numberOfTrailingZeros_38 rfl (fun c38 => ?_) (fun c38 => ?_)
      · refine hv_iload_n h dX5_numberOfTrailingZeros_49 0 rfl rfl ?_
        refine hv_bipush h (16) dX5_numberOfTrailingZeros_50 (by decide) ?_
        refine hv_icmp_le h 62 dX5_numberOfTrailingZeros_52 rfl (fun c52 => ?_) (fun c52 => ?_)
        · refine hv_iload_n h dX5_numberOfTrailingZeros_62 0 rfl rfl ?_
          refine hv_iconst h (4) dX5_numberOfTrailingZeros_63 (by decide) ?_
          refine hv_icmp_le h 74 dX5_numberOfTrailingZeros_64 rfl (fun c64 => ?_) (fun c64 => ?_)
          · refine hv_iload_n h dX5_numberOfTrailingZeros_74 1 rfl rfl ?_
            refine hv_iload_n h dX5_numberOfTrailingZeros_75 0 rfl rfl ?_
            refine hv_iconst h (1) dX5_numberOfTrailingZeros_76 (by decide) ?_
            refine hv_iushr h dX5_numberOfTrailingZeros_77 ?_
            refine hv_iadd h dX5_numberOfTrailingZeros_78 ?_
            exact hv_iret h hr hlk hQ dX5_numberOfTrailingZeros_79 ⟨(by simp [hj_ntz, hj_nt, c9, c23, c38, c52, c64]), rfl⟩
          · refine hv_iinc h ((1 + Int32.ofInt (16)) + Int32.ofInt (2)) [(1, .int ((1 + Int32.ofInt (16)) + Int32.ofInt (2))), (0, .int (hj_u (hj_ntm i0) 16))] dX5_numberOfTrailingZeros_67 1 rfl rfl (by decide) rfl ?_
            refine hv_iload_n h dX5_numberOfTrailingZeros_70 1 rfl rfl ?_
            refine hv_iconst h (2) dX5_numberOfTrailingZeros_71 (by decide) ?_
            refine hv_iushr h dX5_numberOfTrailingZeros_72 ?_
            refine hv_istore_n h [(0, .int (hj_u (hj_u (hj_ntm i0) 16) 2)), (1, .int ((1 + Int32.ofInt (16)) + Int32.ofInt (2)))] dX5_numberOfTrailingZeros_73 rfl (by decide) rfl ?_
            refine hv_iload_n h dX5_numberOfTrailingZeros_74 1 rfl rfl ?_
            refine hv_iload_n h dX5_numberOfTrailingZeros_75 0 rfl rfl ?_
            refine hv_iconst h (1) dX5_numberOfTrailingZeros_76 (by decide) ?_
            refine hv_iushr h dX5_numberOfTrailingZeros_77 ?_
            refine hv_iadd h dX5_numberOfTrailingZeros_78 ?_
            exact hv_iret h hr hlk hQ dX5_numberOfTrailingZeros_79 ⟨(by simp [hj_ntz, hj_nt, c9, c23, c38, c52, c64]), rfl⟩
        · refine hv_iinc h ((1 + Int32.ofInt (16)) + Int32.ofInt (4)) [(1, .int ((1 + Int32.ofInt (16)) + Int32.ofInt (4))), (0, .int (hj_u (hj_ntm i0) 16))] dX5_numberOfTrailingZeros_55 1 rfl rfl (by decide) rfl ?_
          refine hv_iload_n h dX5_numberOfTrailingZeros_58 1 rfl rfl ?_
          refine hv_iconst h (4) dX5_numberOfTrailingZeros_59 (by decide) ?_
          refine hv_iushr h dX5_numberOfTrailingZeros_60 ?_
          refine hv_istore_n h [(0, .int (hj_u (hj_u (hj_ntm i0) 16) 4)), (1, .int ((1 + Int32.ofInt (16)) + Int32.ofInt (4)))] dX5_numberOfTrailingZeros_61 rfl (by decide) rfl ?_
          refine hv_iload_n h dX5_numberOfTrailingZeros_62 0 rfl rfl ?_
          refine hv_iconst h (4) dX5_numberOfTrailingZeros_63 (by decide) ?_
          refine hv_icmp_le h 74 dX5_numberOfTrailingZeros_64 rfl (fun c64 => ?_) (fun c64 => ?_)
          · refine hv_iload_n h dX5_numberOfTrailingZeros_74 1 rfl rfl ?_
            refine hv_iload_n h dX5_numberOfTrailingZeros_75 0 rfl rfl ?_
            refine hv_iconst h (1) dX5_numberOfTrailingZeros_76 (by decide) ?_
            refine hv_iushr h dX5_numberOfTrailingZeros_77 ?_
            refine hv_iadd h dX5_numberOfTrailingZeros_78 ?_
            exact hv_iret h hr hlk hQ dX5_numberOfTrailingZeros_79 ⟨(by simp [hj_ntz, hj_nt, c9, c23, c38, c52, c64]), rfl⟩
          · refine hv_iinc h (((1 + Int32.ofInt (16)) + Int32.ofInt (4)) + Int32.ofInt (2)) [(1, .int (((1 + Int32.ofInt (16)) + Int32.ofInt (4)) + Int32.ofInt (2))), (0, .int (hj_u (hj_u (hj_ntm i0) 16) 4))] dX5_numberOfTrailingZeros_67 1 rfl rfl (by decide) rfl ?_
            refine hv_iload_n h dX5_numberOfTrailingZeros_70 1 rfl rfl ?_
            refine hv_iconst h (2) dX5_numberOfTrailingZeros_71 (by decide) ?_
            refine hv_iushr h dX5_numberOfTrailingZeros_72 ?_
            refine hv_istore_n h [(0, .int (hj_u (hj_u (hj_u (hj_ntm i0) 16) 4) 2)), (1, .int (((1 + Int32.ofInt (16)) + Int32.ofInt (4)) + Int32.ofInt (2)))] dX5_numberOfTrailingZeros_73 rfl (by decide) rfl ?_
            refine hv_iload_n h dX5_numberOfTrailingZeros_74 1 rfl rfl ?_
            refine hv_iload_n h dX5_numberOfTrailingZeros_75 0 rfl rfl ?_
            refine hv_iconst h (1) dX5_numberOfTrailingZeros_76 (by decide) ?_
            refine hv_iushr h dX5_numberOfTrailingZeros_77 ?_
            refine hv_iadd h dX5_numberOfTrailingZeros_78 ?_
            exact hv_iret h hr hlk hQ dX5_numberOfTrailingZeros_79 ⟨(by simp [hj_ntz, hj_nt, c9, c23, c38, c52, c64]), rfl⟩
      · refine hv_iinc h ((1 + Int32.ofInt (16)) + Int32.ofInt (8)) [(1, .int ((1 + Int32.ofInt (16)) + Int32.ofInt (8))), (0, .int (hj_u (hj_ntm i0) 16))] dX5_numberOfTrailingZeros_41 1 rfl rfl (by decide) rfl ?_
        refine hv_iload_n h dX5_numberOfTrailingZeros_44 1 rfl rfl ?_
        refine hv_bipush h (8) dX5_numberOfTrailingZeros_45 (by decide) ?_
        refine hv_iushr h dX5_numberOfTrailingZeros_47 ?_
        refine hv_istore_n h [(0, .int (hj_u (hj_u (hj_ntm i0) 16) 8)), (1, .int ((1 + Int32.ofInt (16)) + Int32.ofInt (8)))] dX5_numberOfTrailingZeros_48 rfl (by decide) rfl ?_
        refine hv_iload_n h dX5_numberOfTrailingZeros_49 0 rfl rfl ?_
        refine hv_bipush h (16) dX5_numberOfTrailingZeros_50 (by decide) ?_
        refine hv_icmp_le h 62 dX5_numberOfTrailingZeros_52 rfl (fun c52 => ?_) (fun c52 => ?_)
        · refine hv_iload_n h dX5_numberOfTrailingZeros_62 0 rfl rfl ?_
          refine hv_iconst h (4) dX5_numberOfTrailingZeros_63 (by decide) ?_
          refine hv_icmp_le h 74 dX5_numberOfTrailingZeros_64 rfl (fun c64 => ?_) (fun c64 => ?_)
          · refine hv_iload_n h dX5_numberOfTrailingZeros_74 1 rfl rfl ?_
            refine hv_iload_n h dX5_numberOfTrailingZeros_75 0 rfl rfl ?_
            refine hv_iconst h (1) dX5_numberOfTrailingZeros_76 (by decide) ?_
            refine hv_iushr h dX5_numberOfTrailingZeros_77 ?_
            refine hv_iadd h dX5_numberOfTrailingZeros_78 ?_
            exact hv_iret h hr hlk hQ dX5_numberOfTrailingZeros_79 ⟨(by simp [hj_ntz, hj_nt, c9, c23, c38, c52, c64]), rfl⟩
          · refine hv_iinc h (((1 + Int32.ofInt (16)) + Int32.ofInt (8)) + Int32.ofInt (2)) [(1, .int (((1 + Int32.ofInt (16)) + Int32.ofInt (8)) + Int32.ofInt (2))), (0, .int (hj_u (hj_u (hj_ntm i0) 16) 8))] dX5_numberOfTrailingZeros_67 1 rfl rfl (by decide) rfl ?_
            refine hv_iload_n h dX5_numberOfTrailingZeros_70 1 rfl rfl ?_
            refine hv_iconst h (2) dX5_numberOfTrailingZeros_71 (by decide) ?_
            refine hv_iushr h dX5_numberOfTrailingZeros_72 ?_
            refine hv_istore_n h [(0, .int (hj_u (hj_u (hj_u (hj_ntm i0) 16) 8) 2)), (1, .int (((1 + Int32.ofInt (16)) + Int32.ofInt (8)) + Int32.ofInt (2)))] dX5_numberOfTrailingZeros_73 rfl (by decide) rfl ?_
            refine hv_iload_n h dX5_numberOfTrailingZeros_74 1 rfl rfl ?_
            refine hv_iload_n h dX5_numberOfTrailingZeros_75 0 rfl rfl ?_
            refine hv_iconst h (1) dX5_numberOfTrailingZeros_76 (by decide) ?_
            refine hv_iushr h dX5_numberOfTrailingZeros_77 ?_
            refine hv_iadd h dX5_numberOfTrailingZeros_78 ?_
            exact hv_iret h hr hlk hQ dX5_numberOfTrailingZeros_79 ⟨(by simp [hj_ntz, hj_nt, c9, c23, c38, c52, c64]), rfl⟩
        · refine hv_iinc h (((1 + Int32.ofInt (16)) + Int32.ofInt (8)) + Int32.ofInt (4)) [(1, .int (((1 + Int32.ofInt (16)) + Int32.ofInt (8)) + Int32.ofInt (4))), (0, .int (hj_u (hj_u (hj_ntm i0) 16) 8))] dX5_numberOfTrailingZeros_55 1 rfl rfl (by decide) rfl ?_
          refine hv_iload_n h dX5_numberOfTrailingZeros_58 1 rfl rfl ?_
          refine hv_iconst h (4) dX5_numberOfTrailingZeros_59 (by decide) ?_
          refine hv_iushr h dX5_numberOfTrailingZeros_60 ?_
          refine hv_istore_n h [(0, .int (hj_u (hj_u (hj_u (hj_ntm i0) 16) 8) 4)), (1, .int (((1 + Int32.ofInt (16)) + Int32.ofInt (8)) + Int32.ofInt (4)))] dX5_numberOfTrailingZeros_61 rfl (by decide) rfl ?_
          refine hv_iload_n h dX5_numberOfTrailingZeros_62 0 rfl rfl ?_
          refine hv_iconst h (4) dX5_numberOfTrailingZeros_63 (by decide) ?_
          refine hv_icmp_le h 74 dX5_numberOfTrailingZeros_64 rfl (fun c64 => ?_) (fun c64 => ?_)
          · refine hv_iload_n h dX5_numberOfTrailingZeros_74 1 rfl rfl ?_
            refine hv_iload_n h dX5_numberOfTrailingZeros_75 0 rfl rfl ?_
            refine hv_iconst h (1) dX5_numberOfTrailingZeros_76 (by decide) ?_
            refine hv_iushr h dX5_numberOfTrailingZeros_77 ?_
            refine hv_iadd h dX5_numberOfTrailingZeros_78 ?_
            exact hv_iret h hr hlk hQ dX5_numberOfTrailingZeros_79 ⟨(by simp [hj_ntz, hj_nt, c9, c23, c38, c52, c64]), rfl⟩
          · refine hv_iinc h ((((1 + Int32.ofInt (16)) + Int32.ofInt (8)) + Int32.ofInt (4)) + Int32.ofInt (2)) [(1, .int ((((1 + Int32.ofInt (16)) + Int32.ofInt (8)) + Int32.ofInt (4)) + Int32.ofInt (2))), (0, .int (hj_u (hj_u (hj_u (hj_ntm i0) 16) 8) 4))] dX5_numberOfTrailingZeros_67 1 rfl rfl (by decide) rfl ?_
            refine hv_iload_n h dX5_numberOfTrailingZeros_70 1 rfl rfl ?_
            refine hv_iconst h (2) dX5_numberOfTrailingZeros_71 (by decide) ?_
            refine hv_iushr h dX5_numberOfTrailingZeros_72 ?_
            refine hv_istore_n h [(0, .int (hj_u (hj_u (hj_u (hj_u (hj_ntm i0) 16) 8) 4) 2)), (1, .int ((((1 + Int32.ofInt (16)) + Int32.ofInt (8)) + Int32.ofInt (4)) + Int32.ofInt (2)))] dX5_numberOfTrailingZeros_73 rfl (by decide) rfl ?_
            refine hv_iload_n h dX5_numberOfTrailingZeros_74 1 rfl rfl ?_
            refine hv_iload_n h dX5_numberOfTrailingZeros_75 0 rfl rfl ?_
            refine hv_iconst h (1) dX5_numberOfTrailingZeros_76 (by decide) ?_
            refine hv_iushr h dX5_numberOfTrailingZeros_77 ?_
            refine hv_iadd h dX5_numberOfTrailingZeros_78 ?_
            exact hv_iret h hr hlk hQ dX5_numberOfTrailingZeros_79 ⟨(by simp [hj_ntz, hj_nt, c9, c23, c38, c52, c64]), rfl⟩
  · refine hv_iload_n h dX5_numberOfTrailingZeros_12 0 rfl rfl ?_
    refine hv_bipush h (32) dX5_numberOfTrailingZeros_13 (by decide) ?_
    refine hv_iand h dX5_numberOfTrailingZeros_15 ?_
    exact hv_iret h hr hlk hQ dX5_numberOfTrailingZeros_16 ⟨(by simp [hj_ntz, hj_nt, c9]), rfl⟩
end
section
abbrev rX0_isSolid : Room := { frames := 0, cells := 0, slots := 0, locals := 0 }
set_option maxHeartbeats 4000000 in
set_option maxRecDepth 100000 in
theorem k_X0_isSolid (l : Launch) (D : va_G) (cI cC : ClassId) (ws : va_W) (s0 : Int32) : hsI l yX0_isSolid wsX0_isSolid rX0_isSolid D vwCl (hsT cI cC) [.int s0] ws (fun r w => r = hx_b (hx_in s0 6) ∧ w = ws) := by
  refine hsI.enter (cc := cX0_isSolid) (maxL := 1) (ret := (some .boolean)) (by decide) rfl (Nat.le_of_ble_eq_true rfl) ?_
  intro Pg En Ss Mi Ar Be Me Co AA QQ hQ h hr hlk
  refine hs_lv (lv' := [(0, .int s0)]) rfl ?_
  refine hv_iload_n h dX0_isSolid_0 0 rfl rfl ?_
  refine hv_if_lt h 14 dX0_isSolid_1 rfl (fun c1 => ?_) (fun c1 => ?_)
  · refine hv_iconst h (0) dX0_isSolid_14 (by decide) ?_
    exact hv_zret h hr hlk hQ dX0_isSolid_15 rfl ⟨(by first | with_reducible rfl | simp [hx_b, hx_in, c1]), rfl⟩
  · refine hv_iload_n h dX0_isSolid_4 0 rfl rfl ?_
    refine hv_bipush h (6) dX0_isSolid_5 (by decide) ?_
    refine hv_icmp_ge h 14 dX0_isSolid_7 rfl (fun c7 => ?_) (fun c7 => ?_)
    · refine hv_iconst h (0) dX0_isSolid_14 (by decide) ?_
      exact hv_zret h hr hlk hQ dX0_isSolid_15 rfl ⟨(by first | with_reducible rfl | simp [hx_b, hx_in, c1, c7]), rfl⟩
    · refine hv_iconst h (1) dX0_isSolid_10 (by decide) ?_
      refine hv_goto h 15 dX0_isSolid_11 rfl ?_
      exact hv_zret h hr hlk hQ dX0_isSolid_15 rfl ⟨(by first | with_reducible rfl | simp [hx_b, hx_in, c1, c7]), rfl⟩
abbrev rX0_isAxis : Room := { frames := 0, cells := 0, slots := 0, locals := 0 }
set_option maxHeartbeats 4000000 in
set_option maxRecDepth 100000 in
theorem k_X0_isAxis (l : Launch) (D : va_G) (cI cC : ClassId) (ws : va_W) (s0 : Int32) : hsI l yX0_isAxis wsX0_isAxis rX0_isAxis D vwCl (hsT cI cC) [.int s0] ws (fun r w => r = hx_b (hx_in s0 3) ∧ w = ws) := by
  refine hsI.enter (cc := cX0_isAxis) (maxL := 1) (ret := (some .boolean)) (by decide) rfl (Nat.le_of_ble_eq_true rfl) ?_
  intro Pg En Ss Mi Ar Be Me Co AA QQ hQ h hr hlk
  refine hs_lv (lv' := [(0, .int s0)]) rfl ?_
  refine hv_iload_n h dX0_isAxis_0 0 rfl rfl ?_
  refine hv_if_lt h 13 dX0_isAxis_1 rfl (fun c1 => ?_) (fun c1 => ?_)
  · refine hv_iconst h (0) dX0_isAxis_13 (by decide) ?_
    exact hv_zret h hr hlk hQ dX0_isAxis_14 rfl ⟨(by first | with_reducible rfl | simp [hx_b, hx_in, c1]), rfl⟩
  · refine hv_iload_n h dX0_isAxis_4 0 rfl rfl ?_
    refine hv_iconst h (3) dX0_isAxis_5 (by decide) ?_
    refine hv_icmp_ge h 13 dX0_isAxis_6 rfl (fun c6 => ?_) (fun c6 => ?_)
    · refine hv_iconst h (0) dX0_isAxis_13 (by decide) ?_
      exact hv_zret h hr hlk hQ dX0_isAxis_14 rfl ⟨(by first | with_reducible rfl | simp [hx_b, hx_in, c1, c6]), rfl⟩
    · refine hv_iconst h (1) dX0_isAxis_9 (by decide) ?_
      refine hv_goto h 14 dX0_isAxis_10 rfl ?_
      exact hv_zret h hr hlk hQ dX0_isAxis_14 rfl ⟨(by first | with_reducible rfl | simp [hx_b, hx_in, c1, c6]), rfl⟩
abbrev rX0_isCoordinate : Room := { frames := 0, cells := 0, slots := 0, locals := 0 }
set_option maxHeartbeats 4000000 in
set_option maxRecDepth 100000 in
theorem k_X0_isCoordinate (l : Launch) (D : va_G) (cI cC : ClassId) (ws : va_W) (s0 : Int32) : hsI l yX0_isCoordinate wsX0_isCoordinate rX0_isCoordinate D vwCl (hsT cI cC) [.int s0] ws (fun r w => r = hx_b (hx_in s0 12) ∧ w = ws) := by
  refine hsI.enter (cc := cX0_isCoordinate) (maxL := 1) (ret := (some .boolean)) (by decide) rfl (Nat.le_of_ble_eq_true rfl) ?_
  intro Pg En Ss Mi Ar Be Me Co AA QQ hQ h hr hlk
  refine hs_lv (lv' := [(0, .int s0)]) rfl ?_
  refine hv_iload_n h dX0_isCoordinate_0 0 rfl rfl ?_
  refine hv_if_lt h 14 dX0_isCoordinate_1 rfl (fun c1 => ?_) (fun c1 => ?_)
  · refine hv_iconst h (0) dX0_isCoordinate_14 (by decide) ?_
    exact hv_zret h hr hlk hQ dX0_isCoordinate_15 rfl ⟨(by first | with_reducible rfl | simp [hx_b, hx_in, c1]), rfl⟩
  · refine hv_iload_n h dX0_isCoordinate_4 0 rfl rfl ?_
    refine hv_bipush h (12) dX0_isCoordinate_5 (by decide) ?_
    refine hv_icmp_ge h 14 dX0_isCoordinate_7 rfl (fun c7 => ?_) (fun c7 => ?_)
    · refine hv_iconst h (0) dX0_isCoordinate_14 (by decide) ?_
      exact hv_zret h hr hlk hQ dX0_isCoordinate_15 rfl ⟨(by first | with_reducible rfl | simp [hx_b, hx_in, c1, c7]), rfl⟩
    · refine hv_iconst h (1) dX0_isCoordinate_10 (by decide) ?_
      refine hv_goto h 15 dX0_isCoordinate_11 rfl ?_
      exact hv_zret h hr hlk hQ dX0_isCoordinate_15 rfl ⟨(by first | with_reducible rfl | simp [hx_b, hx_in, c1, c7]), rfl⟩
abbrev rX0_isPlane : Room := { frames := 0, cells := 0, slots := 0, locals := 0 }
set_option maxHeartbeats 4000000 in
set_option maxRecDepth 100000 in
theorem k_X0_isPlane (l : Launch) (D : va_G) (cI cC : ClassId) (ws : va_W) (s0 : Int32) : hsI l yX0_isPlane wsX0_isPlane rX0_isPlane D vwCl (hsT cI cC) [.int s0] ws (fun r w => r = hx_b (hx_pl s0) ∧ w = ws) := by
  refine hsI.enter (cc := cX0_isPlane) (maxL := 1) (ret := (some .boolean)) (by decide) rfl (Nat.le_of_ble_eq_true rfl) ?_
  intro Pg En Ss Mi Ar Be Me Co AA QQ hQ h hr hlk
  refine hs_lv (lv' := [(0, .int s0)]) rfl ?_
  refine hv_iload_n h dX0_isPlane_0 0 rfl rfl ?_
  refine hv_if_lt h 14 dX0_isPlane_1 rfl (fun c1 => ?_) (fun c1 => ?_)
  · refine hv_iconst h (0) dX0_isPlane_14 (by decide) ?_
    exact hv_zret h hr hlk hQ dX0_isPlane_15 rfl ⟨(by first | with_reducible rfl | simp [hx_b, hx_pl, c1]), rfl⟩
  · refine hv_iload_n h dX0_isPlane_4 0 rfl rfl ?_
    refine hv_bipush h (12) dX0_isPlane_5 (by decide) ?_
    refine hv_icmp_gt h 14 dX0_isPlane_7 rfl (fun c7 => ?_) (fun c7 => ?_)
    · refine hv_iconst h (0) dX0_isPlane_14 (by decide) ?_
      exact hv_zret h hr hlk hQ dX0_isPlane_15 rfl ⟨(by first | with_reducible rfl | simp [hx_b, hx_pl, c1, c7]), rfl⟩
    · refine hv_iconst h (1) dX0_isPlane_10 (by decide) ?_
      refine hv_goto h 15 dX0_isPlane_11 rfl ?_
      exact hv_zret h hr hlk hQ dX0_isPlane_15 rfl ⟨(by first | with_reducible rfl | simp [hx_b, hx_pl, c1, c7]), rfl⟩
abbrev rX0_isStretch : Room := { frames := 1, cells := 0, slots := 0, locals := 20 }
set_option maxHeartbeats 4000000 in
set_option maxRecDepth 100000 in
theorem k_X0_isStretch (l : Launch) (D : va_G) (cI cC : ClassId) (ws : va_W) (s0 : Int32) (w0 : Int32) : hsI l yX0_isStretch wsX0_isStretch rX0_isStretch D vwCl (hsT cI cC) [.int s0, .int w0] ws (fun r w => r = hx_b (hx_str s0 w0) ∧ w = ws) := by
  refine hsI.enter (cc := cX0_isStretch) (maxL := 2) (ret := (some .boolean)) (by decide) rfl (Nat.le_of_ble_eq_true rfl) ?_
  intro Pg En Ss Mi Ar Be Me Co AA QQ hQ h hr hlk
  refine hs_lv (lv' := [(0, .int s0), (1, .int w0)]) rfl ?_
  refine hv_iload_n h dX0_isStretch_0 0 rfl rfl ?_
  refine hv_callp (ws' := ws) (v := hx_b (hx_in s0 12)) h (hr_Si (n := 1) (rest := []) h (k_X0_isCoordinate l D cI cC ws s0) w_methodLink_X0_75 w_static_X0_isCoordinate w_initialized_X0 w_code_X0_isCoordinate (by decide +kernel) rfl rfl rfl ⟨by decide, by decide⟩ rfl (Nat.le_of_ble_eq_true rfl) ⟨Nat.zero_le _, Nat.zero_le _⟩ dX0_isStretch_1) ?_
  refine hv_bif_eq h 24 dX0_isStretch_4 rfl (fun c4 => ?_) (fun c4 => ?_)
  · refine hv_iconst h (0) dX0_isStretch_24 (by decide) ?_
    exact hv_zret h hr hlk hQ dX0_isStretch_25 rfl ⟨(by first | with_reducible rfl | simp [hx_b, hx_str, c4]), rfl⟩
  · refine hv_iload_n h dX0_isStretch_7 1 rfl rfl ?_
    refine hv_iconst h (1) dX0_isStretch_8 (by decide) ?_
    refine hv_icmp_lt h 24 dX0_isStretch_9 rfl (fun c9 => ?_) (fun c9 => ?_)
    · refine hv_iconst h (0) dX0_isStretch_24 (by decide) ?_
      exact hv_zret h hr hlk hQ dX0_isStretch_25 rfl ⟨(by first | with_reducible rfl | simp [hx_b, hx_str, c4, c9]), rfl⟩
    · refine hv_iload_n h dX0_isStretch_12 1 rfl rfl ?_
      refine hv_bipush h (12) dX0_isStretch_13 (by decide) ?_
      refine hv_iload_n h dX0_isStretch_15 0 rfl rfl ?_
      refine hv_isub h dX0_isStretch_16 ?_
      refine hv_icmp_gt h 24 dX0_isStretch_17 rfl (fun c17 => ?_) (fun c17 => ?_)
      · refine hv_iconst h (0) dX0_isStretch_24 (by decide) ?_
        exact hv_zret h hr hlk hQ dX0_isStretch_25 rfl ⟨(by first | with_reducible rfl | simp [hx_b, hx_str, c4, c9, c17]), rfl⟩
      · refine hv_iconst h (1) dX0_isStretch_20 (by decide) ?_
        refine hv_goto h 25 dX0_isStretch_21 rfl ?_
        exact hv_zret h hr hlk hQ dX0_isStretch_25 rfl ⟨(by first | with_reducible rfl | simp [hx_b, hx_str, c4, c9, c17]), rfl⟩
abbrev rX0_isStrokePlace : Room := { frames := 1, cells := 0, slots := 0, locals := 20 }
set_option maxHeartbeats 4000000 in
set_option maxRecDepth 100000 in
theorem k_X0_isStrokePlace (l : Launch) (D : va_G) (cI cC : ClassId) (ws : va_W) (u0 : Int32) (v0 : Int32) (x0 : Int32) : hsI l yX0_isStrokePlace wsX0_isStrokePlace rX0_isStrokePlace D vwCl (hsT cI cC) [.int u0, .int v0, .int x0] ws (fun r w => r = hx_b (hx_spl u0 v0 x0) ∧ w = ws) := by
  refine hsI.enter (cc := cX0_isStrokePlace) (maxL := 3) (ret := (some .boolean)) (by decide) rfl (Nat.le_of_ble_eq_true rfl) ?_
  intro Pg En Ss Mi Ar Be Me Co AA QQ hQ h hr hlk
  refine hs_lv (lv' := [(0, .int u0), (1, .int v0), (2, .int x0)]) rfl ?_
  refine hv_iload_n h dX0_isStrokePlace_0 2 rfl rfl ?_
  refine hv_if_ne h 24 dX0_isStrokePlace_1 rfl (fun c1 => ?_) (fun c1 => ?_)
  · refine hv_iload_n h dX0_isStrokePlace_24 2 rfl rfl ?_
    refine hv_iconst h (1) dX0_isStrokePlace_25 (by decide) ?_
    refine hv_icmp_ne h 47 dX0_isStrokePlace_26 rfl (fun c26 => ?_) (fun c26 => ?_)
    · refine hv_iconst h (0) dX0_isStrokePlace_47 (by decide) ?_
      exact hv_zret h hr hlk hQ dX0_isStrokePlace_48 rfl ⟨(by first | with_reducible rfl | simp [hx_b, hx_spl, c1, c26]), rfl⟩
    · refine hv_iload_n h dX0_isStrokePlace_29 0 rfl rfl ?_
      refine hv_callp (ws' := ws) (v := hx_b (hx_in u0 12)) h (hr_Si (n := 1) (rest := []) h (k_X0_isCoordinate l D cI cC ws u0) w_methodLink_X0_75 w_static_X0_isCoordinate w_initialized_X0 w_code_X0_isCoordinate (by decide +kernel) rfl rfl rfl ⟨by decide, by decide⟩ rfl (Nat.le_of_ble_eq_true rfl) ⟨Nat.zero_le _, Nat.zero_le _⟩ dX0_isStrokePlace_30) ?_
      refine hv_bif_eq h 47 dX0_isStrokePlace_33 rfl (fun c33 => ?_) (fun c33 => ?_)
      · refine hv_iconst h (0) dX0_isStrokePlace_47 (by decide) ?_
        exact hv_zret h hr hlk hQ dX0_isStrokePlace_48 rfl ⟨(by first | with_reducible rfl | simp [hx_b, hx_spl, c1, c26, c33]), rfl⟩
      · refine hv_iload_n h dX0_isStrokePlace_36 1 rfl rfl ?_
        refine hv_callp (ws' := ws) (v := hx_b (hx_pl v0)) h (hr_Si (n := 1) (rest := []) h (k_X0_isPlane l D cI cC ws v0) w_methodLink_X0_116 w_static_X0_isPlane w_initialized_X0 w_code_X0_isPlane (by decide +kernel) rfl rfl rfl ⟨by decide, by decide⟩ rfl (Nat.le_of_ble_eq_true rfl) ⟨Nat.zero_le _, Nat.zero_le _⟩ dX0_isStrokePlace_37) ?_
        refine hv_bif_eq h 47 dX0_isStrokePlace_40 rfl (fun c40 => ?_) (fun c40 => ?_)
        · refine hv_iconst h (0) dX0_isStrokePlace_47 (by decide) ?_
          exact hv_zret h hr hlk hQ dX0_isStrokePlace_48 rfl ⟨(by first | with_reducible rfl | simp [hx_b, hx_spl, c1, c26, c33, c40]), rfl⟩
        · refine hv_iconst h (1) dX0_isStrokePlace_43 (by decide) ?_
          refine hv_goto h 48 dX0_isStrokePlace_44 rfl ?_
          exact hv_zret h hr hlk hQ dX0_isStrokePlace_48 rfl ⟨(by first | with_reducible rfl | simp [hx_b, hx_spl, c1, c26, c33, c40]), rfl⟩
  · refine hv_iload_n h dX0_isStrokePlace_4 0 rfl rfl ?_
    refine hv_callp (ws' := ws) (v := hx_b (hx_pl u0)) h (hr_Si (n := 1) (rest := []) h (k_X0_isPlane l D cI cC ws u0) w_methodLink_X0_116 w_static_X0_isPlane w_initialized_X0 w_code_X0_isPlane (by decide +kernel) rfl rfl rfl ⟨by decide, by decide⟩ rfl (Nat.le_of_ble_eq_true rfl) ⟨Nat.zero_le _, Nat.zero_le _⟩ dX0_isStrokePlace_5) ?_
    refine hv_bif_eq h 22 dX0_isStrokePlace_8 rfl (fun c8 => ?_) (fun c8 => ?_)
    · refine hv_iconst h (0) dX0_isStrokePlace_22 (by decide) ?_
      exact hv_zret h hr hlk hQ dX0_isStrokePlace_23 rfl ⟨(by first | with_reducible rfl | simp [hx_b, hx_spl, c1, c8]), rfl⟩
    · refine hv_iload_n h dX0_isStrokePlace_11 1 rfl rfl ?_
      refine hv_callp (ws' := ws) (v := hx_b (hx_in v0 12)) h (hr_Si (n := 1) (rest := []) h (k_X0_isCoordinate l D cI cC ws v0) w_methodLink_X0_75 w_static_X0_isCoordinate w_initialized_X0 w_code_X0_isCoordinate (by decide +kernel) rfl rfl rfl ⟨by decide, by decide⟩ rfl (Nat.le_of_ble_eq_true rfl) ⟨Nat.zero_le _, Nat.zero_le _⟩ dX0_isStrokePlace_12) ?_
      refine hv_bif_eq h 22 dX0_isStrokePlace_15 rfl (fun c15 => ?_) (fun c15 => ?_)
      · refine hv_iconst h (0) dX0_isStrokePlace_22 (by decide) ?_
        exact hv_zret h hr hlk hQ dX0_isStrokePlace_23 rfl ⟨(by first | with_reducible rfl | simp [hx_b, hx_spl, c1, c8, c15]), rfl⟩
      · refine hv_iconst h (1) dX0_isStrokePlace_18 (by decide) ?_
        refine hv_goto h 23 dX0_isStrokePlace_19 rfl ?_
        exact hv_zret h hr hlk hQ dX0_isStrokePlace_23 rfl ⟨(by first | with_reducible rfl | simp [hx_b, hx_spl, c1, c8, c15]), rfl⟩
abbrev rX0_edgesAmong : Room := { frames := 0, cells := 0, slots := 0, locals := 0 }
set_option maxHeartbeats 4000000 in
set_option maxRecDepth 100000 in
theorem k_X0_edgesAmong (l : Launch) (D : va_G) (cI cC : ClassId) (ws : va_W) (a0 : Int32) (b0 : Int32) (c0 : Int32) (d0 : Int32) : hsI l yX0_edgesAmong wsX0_edgesAmong rX0_edgesAmong D vwCl (hsT cI cC) [.int a0, .int b0, .int c0, .int d0] ws (fun r w => r = hx_ea a0 b0 c0 d0 ∧ w = ws) := by
  refine hsI.enter (cc := cX0_edgesAmong) (maxL := 4) (ret := (some .int)) (by decide) rfl (Nat.le_of_ble_eq_true rfl) ?_
  intro Pg En Ss Mi Ar Be Me Co AA QQ hQ h hr hlk
  refine hs_lv (lv' := [(0, .int a0), (1, .int b0), (2, .int c0), (3, .int d0)]) rfl ?_
  refine hv_iload_n h dX0_edgesAmong_0 0 rfl rfl ?_
  refine hv_iload_n h dX0_edgesAmong_1 1 rfl rfl ?_
  refine hv_ixor h dX0_edgesAmong_2 ?_
  refine hv_iload_n h dX0_edgesAmong_3 2 rfl rfl ?_
  refine hv_iload_n h dX0_edgesAmong_4 3 rfl rfl ?_
  refine hv_ixor h dX0_edgesAmong_5 ?_
  refine hv_ior h dX0_edgesAmong_6 ?_
  refine hv_iload_n h dX0_edgesAmong_7 0 rfl rfl ?_
  refine hv_iload_n h dX0_edgesAmong_8 2 rfl rfl ?_
  refine hv_ixor h dX0_edgesAmong_9 ?_
  refine hv_iload_n h dX0_edgesAmong_10 1 rfl rfl ?_
  refine hv_iload_n h dX0_edgesAmong_11 3 rfl rfl ?_
  refine hv_ixor h dX0_edgesAmong_12 ?_
  refine hv_ior h dX0_edgesAmong_13 ?_
  refine hv_iand h dX0_edgesAmong_14 ?_
  exact hv_iret h hr hlk hQ dX0_edgesAmong_15 ⟨rfl, rfl⟩
abbrev rX0_edgesBetween : Room := { frames := 1, cells := 0, slots := 0, locals := 23 }
set_option maxHeartbeats 4000000 in
set_option maxRecDepth 100000 in
theorem k_X0_edgesBetween (l : Launch) (D : va_G) (cI cC : ClassId) (ws : va_W) (a0 : Int32) (c0 : Int32) : hsI l yX0_edgesBetween wsX0_edgesBetween rX0_edgesBetween D vwCl (hsT cI cC) [.int a0, .int c0] ws (fun r w => r = hx_eb a0 c0 ∧ w = ws) := by
  refine hsI.enter (cc := cX0_edgesBetween) (maxL := 2) (ret := (some .int)) (by decide) rfl (Nat.le_of_ble_eq_true rfl) ?_
  intro Pg En Ss Mi Ar Be Me Co AA QQ hQ h hr hlk
  refine hs_lv (lv' := [(0, .int a0), (1, .int c0)]) rfl ?_
  refine hv_iload_n h dX0_edgesBetween_0 0 rfl rfl ?_
  refine hv_iload_n h dX0_edgesBetween_1 0 rfl rfl ?_
  refine hv_iconst h (1) dX0_edgesBetween_2 (by decide) ?_
  refine hv_ishl h dX0_edgesBetween_3 ?_
  refine hv_iload_n h dX0_edgesBetween_4 1 rfl rfl ?_
  refine hv_iload_n h dX0_edgesBetween_5 1 rfl rfl ?_
  refine hv_iconst h (1) dX0_edgesBetween_6 (by decide) ?_
  refine hv_ishl h dX0_edgesBetween_7 ?_
  refine hv_callp (ws' := ws) (v := hx_ea a0 (a0 <<< ((1 : Int32) &&& 31)) c0 (c0 <<< ((1 : Int32) &&& 31))) h (hr_Si (n := 4) (rest := []) h (k_X0_edgesAmong l D cI cC ws a0 (a0 <<< ((1 : Int32) &&& 31)) c0 (c0 <<< ((1 : Int32) &&& 31))) w_methodLink_X0_163 w_static_X0_edgesAmong w_initialized_X0 w_code_X0_edgesAmong (by decide +kernel) rfl rfl rfl ⟨by decide, by decide⟩ rfl (Nat.le_of_ble_eq_true rfl) ⟨Nat.zero_le _, Nat.zero_le _⟩ dX0_edgesBetween_8) ?_
  exact hv_iret h hr hlk hQ dX0_edgesBetween_11 ⟨rfl, rfl⟩
abbrev rX0_depthOf : Room := { frames := 1, cells := 0, slots := 0, locals := 21 }
set_option maxHeartbeats 4000000 in
set_option maxRecDepth 100000 in
theorem k_X0_depthOf (l : Launch) (D : va_G) (cI cC : ClassId) (ws : va_W) (c0 : Int32) (b0 : Int32) : hsI l yX0_depthOf wsX0_depthOf rX0_depthOf D vwCl (hsT cI cC) [.int c0, .int b0] ws (fun r w => r = hx_dep c0 b0 ∧ w = ws) := by
  refine hsI.enter (cc := cX0_depthOf) (maxL := 2) (ret := (some .int)) (by decide) rfl (Nat.le_of_ble_eq_true rfl) ?_
  intro Pg En Ss Mi Ar Be Me Co AA QQ hQ h hr hlk
  refine hs_lv (lv' := [(0, .int c0), (1, .int b0)]) rfl ?_
  refine hv_iload_n h dX0_depthOf_0 0 rfl rfl ?_
  refine hv_if_ne h 7 dX0_depthOf_1 rfl (fun c1 => ?_) (fun c1 => ?_)
  · refine hv_iload_n h dX0_depthOf_7 1 rfl rfl ?_
    refine hv_if_eq h 19 dX0_depthOf_8 rfl (fun c8 => ?_) (fun c8 => ?_)
    · refine hv_iload_n h dX0_depthOf_19 0 rfl rfl ?_
      refine hv_callp (ws' := ws) (v := hj_ntz c0) h (hr_Si (n := 1) (rest := []) h (k_X5_numberOfTrailingZeros l D cI cC ws c0) w_methodLink_X0_157 w_static_X5_numberOfTrailingZeros w_initialized_X5 w_code_X5_numberOfTrailingZeros (by decide +kernel) rfl rfl rfl ⟨by decide, by decide⟩ rfl (Nat.le_of_ble_eq_true rfl) ⟨Nat.zero_le _, Nat.zero_le _⟩ dX0_depthOf_20) ?_
      exact hv_iret h hr hlk hQ dX0_depthOf_23 ⟨(by first | with_reducible rfl | simp [hx_b, hx_dep, c1, c8]), rfl⟩
    · refine hv_iload_n h dX0_depthOf_11 0 rfl rfl ?_
      refine hv_callp (ws' := ws) (v := hj_nlz c0) h (hr_Si (n := 1) (rest := []) h (k_X5_numberOfLeadingZeros l D cI cC ws c0) w_methodLink_X0_152 w_static_X5_numberOfLeadingZeros w_initialized_X5 w_code_X5_numberOfLeadingZeros (by decide +kernel) rfl rfl rfl ⟨by decide, by decide⟩ rfl (Nat.le_of_ble_eq_true rfl) ⟨Nat.zero_le _, Nat.zero_le _⟩ dX0_depthOf_12) ?_
      refine hv_bipush h (20) dX0_depthOf_15 (by decide) ?_
      refine hv_isub h dX0_depthOf_17 ?_
      exact hv_iret h hr hlk hQ dX0_depthOf_18 ⟨(by first | with_reducible rfl | simp [hx_b, hx_dep, c1, c8]), rfl⟩
  · refine hv_bipush h (12) dX0_depthOf_4 (by decide) ?_
    exact hv_iret h hr hlk hQ dX0_depthOf_6 ⟨(by first | with_reducible rfl | simp [hx_b, hx_dep, c1]), rfl⟩
abbrev rX0_strokeBetween : Room := { frames := 2, cells := 0, slots := 0, locals := 44 }
set_option maxHeartbeats 4000000 in
set_option maxRecDepth 100000 in
theorem k_X0_strokeBetween (l : Launch) (D : va_G) (cI cC : ClassId) (ws : va_W) (c0 : Int32) (n0 : Int32) (b0 : Int32) : hsI l yX0_strokeBetween wsX0_strokeBetween rX0_strokeBetween D vwCl (hsT cI cC) [.int c0, .int n0, .int b0] ws (fun r w => r = hx_sb c0 n0 b0 ∧ w = ws) := by
  refine hsI.enter (cc := cX0_strokeBetween) (maxL := 3) (ret := (some .int)) (by decide) rfl (Nat.le_of_ble_eq_true rfl) ?_
  intro Pg En Ss Mi Ar Be Me Co AA QQ hQ h hr hlk
  refine hs_lv (lv' := [(0, .int c0), (1, .int n0), (2, .int b0)]) rfl ?_
  refine hv_iload_n h dX0_strokeBetween_0 0 rfl rfl ?_
  refine hv_iload_n h dX0_strokeBetween_1 2 rfl rfl ?_
  refine hv_callp (ws' := ws) (v := hx_dep c0 b0) h (hr_Si (n := 2) (rest := []) h (k_X0_depthOf l D cI cC ws c0 b0) w_methodLink_X0_130 w_static_X0_depthOf w_initialized_X0 w_code_X0_depthOf (by decide +kernel) rfl rfl rfl ⟨by decide, by decide⟩ rfl (Nat.le_of_ble_eq_true rfl) ⟨Nat.zero_le _, Nat.zero_le _⟩ dX0_strokeBetween_2) ?_
  refine hv_iload_n h dX0_strokeBetween_5 1 rfl rfl ?_
  refine hv_iload_n h dX0_strokeBetween_6 2 rfl rfl ?_
  refine hv_callp (ws' := ws) (v := hx_dep n0 b0) h (hr_Si (n := 2) (rest := [.int (hx_dep c0 b0)]) h (k_X0_depthOf l D cI cC ws n0 b0) w_methodLink_X0_130 w_static_X0_depthOf w_initialized_X0 w_code_X0_depthOf (by decide +kernel) rfl rfl rfl ⟨by decide, by decide⟩ rfl (Nat.le_of_ble_eq_true rfl) ⟨Nat.zero_le _, Nat.zero_le _⟩ dX0_strokeBetween_7) ?_
  refine hv_icmp_eq h 15 dX0_strokeBetween_10 rfl (fun c10 => ?_) (fun c10 => ?_)
  · refine hv_iload_n h dX0_strokeBetween_15 0 rfl rfl ?_
    refine hv_iload_n h dX0_strokeBetween_16 1 rfl rfl ?_
    refine hv_callp (ws' := ws) (v := hx_eb c0 n0) h (hr_Si (n := 2) (rest := []) h (k_X0_edgesBetween l D cI cC ws c0 n0) w_methodLink_X0_160 w_static_X0_edgesBetween w_initialized_X0 w_code_X0_edgesBetween (by decide +kernel) rfl rfl rfl ⟨by decide, by decide⟩ rfl (Nat.le_of_ble_eq_true rfl) ⟨Nat.zero_le _, Nat.zero_le _⟩ dX0_strokeBetween_17) ?_
    refine hv_if_eq h 27 dX0_strokeBetween_20 rfl (fun c20 => ?_) (fun c20 => ?_)
    · refine hv_iconst h (0) dX0_strokeBetween_27 (by decide) ?_
      exact hv_iret h hr hlk hQ dX0_strokeBetween_28 ⟨(by first | with_reducible rfl | simp [hx_b, hx_sb, c10, c20]), rfl⟩
    · refine hv_iconst h (1) dX0_strokeBetween_23 (by decide) ?_
      refine hv_goto h 28 dX0_strokeBetween_24 rfl ?_
      exact hv_iret h hr hlk hQ dX0_strokeBetween_28 ⟨(by first | with_reducible rfl | simp [hx_b, hx_sb, c10, c20]), rfl⟩
  · refine hv_iconst h (2) dX0_strokeBetween_13 (by decide) ?_
    exact hv_iret h hr hlk hQ dX0_strokeBetween_14 ⟨(by first | with_reducible rfl | simp [hx_b, hx_sb, c10]), rfl⟩
abbrev rX1_spanOf : Room := { frames := 0, cells := 0, slots := 0, locals := 0 }
set_option maxHeartbeats 4000000 in
set_option maxRecDepth 100000 in
theorem k_X1_spanOf (l : Launch) (D : va_G) (cI cC : ClassId) (ws : va_W) (a0 : Int32) (b0 : Int32) : hsI l yX1_spanOf wsX1_spanOf rX1_spanOf D vwCl (hsT cI cC) [.int a0, .int b0] ws (fun r w => r = hx_span a0 b0 ∧ w = ws) := by
  refine hsI.enter (cc := cX1_spanOf) (maxL := 2) (ret := (some .int)) (by decide) rfl (Nat.le_of_ble_eq_true rfl) ?_
  intro Pg En Ss Mi Ar Be Me Co AA QQ hQ h hr hlk
  refine hs_lv (lv' := [(0, .int a0), (1, .int b0)]) rfl ?_
  refine hv_iconst h (1) dX1_spanOf_0 (by decide) ?_
  refine hv_iload_n h dX1_spanOf_1 1 rfl rfl ?_
  refine hv_iconst h (1) dX1_spanOf_2 (by decide) ?_
  refine hv_iadd h dX1_spanOf_3 ?_
  refine hv_ishl h dX1_spanOf_4 ?_
  refine hv_iconst h (1) dX1_spanOf_5 (by decide) ?_
  refine hv_iload_n h dX1_spanOf_6 0 rfl rfl ?_
  refine hv_ishl h dX1_spanOf_7 ?_
  refine hv_isub h dX1_spanOf_8 ?_
  exact hv_iret h hr hlk hQ dX1_spanOf_9 ⟨rfl, rfl⟩
abbrev rX1_joined : Room := { frames := 0, cells := 0, slots := 0, locals := 0 }
set_option maxHeartbeats 4000000 in
set_option maxRecDepth 100000 in
theorem k_X1_joined (l : Launch) (D : va_G) (cI cC : ClassId) (ws : va_W) (a0 : Int32) (b0 : Int32) (w0 : Int32) : hsI l yX1_joined wsX1_joined rX1_joined D vwCl (hsT cI cC) [.int a0, .int b0, .int w0] ws (fun r w => r = hx_jn a0 b0 w0 ∧ w = ws) := by
  refine hsI.enter (cc := cX1_joined) (maxL := 3) (ret := (some .int)) (by decide) rfl (Nat.le_of_ble_eq_true rfl) ?_
  intro Pg En Ss Mi Ar Be Me Co AA QQ hQ h hr hlk
  refine hs_lv (lv' := [(0, .int a0), (1, .int b0), (2, .int w0)]) rfl ?_
  refine hv_iload_n h dX1_joined_0 2 rfl rfl ?_
  rcases hx_sw3 w0 with c1 | c1 | c1 | ⟨c1, c2, c3, c4⟩
  · subst c1
    refine hv_tableIn h 28 dX1_joined_1 (by decide) (by decide) rfl rfl ?_
    refine hv_iload_n h dX1_joined_28 0 rfl rfl ?_
    refine hv_iload_n h dX1_joined_29 1 rfl rfl ?_
    refine hv_ior h dX1_joined_30 ?_
    exact hv_iret h hr hlk hQ dX1_joined_31 ⟨(by first | with_reducible rfl | simp [hx_b, hx_jn]), rfl⟩
  · subst c1
    refine hv_tableIn h 32 dX1_joined_1 (by decide) (by decide) rfl rfl ?_
    refine hv_iload_n h dX1_joined_32 0 rfl rfl ?_
    refine hv_iload_n h dX1_joined_33 1 rfl rfl ?_
    refine hv_iand h dX1_joined_34 ?_
    exact hv_iret h hr hlk hQ dX1_joined_35 ⟨(by first | with_reducible rfl | simp [hx_b, hx_jn]), rfl⟩
  · subst c1
    refine hv_tableIn h 36 dX1_joined_1 (by decide) (by decide) rfl rfl ?_
    refine hv_iload_n h dX1_joined_36 0 rfl rfl ?_
    refine hv_iload_n h dX1_joined_37 1 rfl rfl ?_
    refine hv_iconst h ((-1)) dX1_joined_38 (by decide) ?_
    refine hv_ixor h dX1_joined_39 ?_
    refine hv_iand h dX1_joined_40 ?_
    exact hv_iret h hr hlk hQ dX1_joined_41 ⟨(by first | with_reducible rfl | simp [hx_b, hx_jn]), rfl⟩
  · refine hv_tableOut h 42 dX1_joined_1 c1 rfl ?_
    refine hv_iload_n h dX1_joined_42 0 rfl rfl ?_
    refine hv_iload_n h dX1_joined_43 1 rfl rfl ?_
    refine hv_ixor h dX1_joined_44 ?_
    exact hv_iret h hr hlk hQ dX1_joined_45 ⟨(by first | with_reducible rfl | simp [hx_b, hx_jn, c2, c3, c4]), rfl⟩
abbrev rX1_reversed : Room := { frames := 2, cells := 0, slots := 0, locals := 40 }
set_option maxHeartbeats 4000000 in
set_option maxRecDepth 100000 in
theorem k_X1_reversed (l : Launch) (D : va_G) (cI cC : ClassId) (ws : va_W) (a0 : Int32) : hsI l yX1_reversed wsX1_reversed rX1_reversed D vwCl (hsT cI cC) [.int a0] ws (fun r w => r = hx_rev a0 ∧ w = ws) := by
  refine hsI.enter (cc := cX1_reversed) (maxL := 1) (ret := (some .int)) (by decide) rfl (Nat.le_of_ble_eq_true rfl) ?_
  intro Pg En Ss Mi Ar Be Me Co AA QQ hQ h hr hlk
  refine hs_lv (lv' := [(0, .int a0)]) rfl ?_
  refine hv_iload_n h dX1_reversed_0 0 rfl rfl ?_
  refine hv_callp (ws' := ws) (v := hj_rev a0) h (hr_Si (n := 1) (rest := []) h (k_X5_reverse l D cI cC ws a0) w_methodLink_X1_62 w_static_X5_reverse w_initialized_X5 w_code_X5_reverse (by decide +kernel) rfl rfl rfl ⟨by decide, by decide⟩ rfl (Nat.le_of_ble_eq_true rfl) ⟨Nat.zero_le _, Nat.zero_le _⟩ dX1_reversed_1) ?_
  refine hv_bipush h (20) dX1_reversed_4 (by decide) ?_
  refine hv_iushr h dX1_reversed_6 ?_
  exact hv_iret h hr hlk hQ dX1_reversed_7 ⟨rfl, rfl⟩
end
section
abbrev rX1_column : Room := { frames := 1, cells := 0, slots := 0, locals := 20 }
set_option maxHeartbeats 4000000 in
set_option maxRecDepth 100000 in
theorem k_X1_column (l : Launch) (D : va_G) (cI cC : ClassId) (ws : va_W) (q qa k a : Nat) (f : Nat → Int32) (hk : ws[q]? = some (k, .inr (hsCi, [.ref a]))) (ha : ws[qa]? = some (a, .inl (cI, 144, .inl f))) (x0 : Int32) (y0 : Int32) : hsI l yX1_column wsX1_column rX1_column D vwCl (hsT cI cC) [.ref k, .int x0, .int y0] ws (fun r w => r = hx_col f x0 y0 ∧ w = ws) := by
  refine hsI.enter (cc := cX1_column) (maxL := 3) (ret := (some .int)) (by decide) rfl (Nat.le_of_ble_eq_true rfl) ?_
  intro Pg En Ss Mi Ar Be Me Co AA QQ hQ h hr hlk
  refine hs_lv (lv' := [(0, .ref k), (1, .int x0), (2, .int y0)]) rfl ?_
  refine hv_iload_n h dX1_column_0 1 rfl rfl ?_
  refine hv_callp (ws' := ws) (v := hx_b (hx_in x0 12)) h (hr_SNi (n := 1) (rest := []) h (k_X0_isCoordinate l D cI cC ws x0) (List.mem_of_getElem? (i := 0) rfl) w_static_X0_isCoordinate w_initialized_X0 w_code_X0_isCoordinate (by decide +kernel) rfl rfl rfl ⟨by decide, by decide⟩ rfl (Nat.le_of_ble_eq_true rfl) ⟨Nat.zero_le _, Nat.zero_le _⟩ dX1_column_1) ?_
  refine hv_bif_eq h 28 dX1_column_4 rfl (fun c4 => ?_) (fun c4 => ?_)
  · refine hv_iconst h (0) dX1_column_28 (by decide) ?_
    exact hv_iret h hr hlk hQ dX1_column_29 ⟨(by first | with_reducible rfl | simp [hx_b, hx_col, c4]), rfl⟩
  · refine hv_iload_n h dX1_column_7 2 rfl rfl ?_
    refine hv_callp (ws' := ws) (v := hx_b (hx_in y0 12)) h (hr_SNi (n := 1) (rest := []) h (k_X0_isCoordinate l D cI cC ws y0) (List.mem_of_getElem? (i := 0) rfl) w_static_X0_isCoordinate w_initialized_X0 w_code_X0_isCoordinate (by decide +kernel) rfl rfl rfl ⟨by decide, by decide⟩ rfl (Nat.le_of_ble_eq_true rfl) ⟨Nat.zero_le _, Nat.zero_le _⟩ dX1_column_8) ?_
    refine hv_bif_eq h 28 dX1_column_11 rfl (fun c11 => ?_) (fun c11 => ?_)
    · refine hv_iconst h (0) dX1_column_28 (by decide) ?_
      exact hv_iret h hr hlk hQ dX1_column_29 ⟨(by first | with_reducible rfl | simp [hx_b, hx_col, c4, c11]), rfl⟩
    · refine hv_aload_n h dX1_column_14 0 rfl rfl ?_
      refine hv_get (C := RX1) (T := TX1) (N := 1) h q hk rfl 0 (by decide) wu_X1 w_fieldLink_X1_9 (fun _ h9 => h9) rfl dX1_column_15 ?_
      refine hv_iload_n h dX1_column_18 1 rfl rfl ?_
      refine hv_bipush h (12) dX1_column_19 (by decide) ?_
      refine hv_imul h dX1_column_21 ?_
      refine hv_iload_n h dX1_column_22 2 rfl rfl ?_
      refine hv_iadd h dX1_column_23 ?_
      refine hv_iald (v := f ((x0 * 12) + y0).toNatClampNeg) h qa 0 ha rfl (hx_col_vp c4 c11) rfl dX1_column_24 ?_
      refine hv_goto h 29 dX1_column_25 rfl ?_
      exact hv_iret h hr hlk hQ dX1_column_29 ⟨(by first | with_reducible rfl | simp [hx_b, hx_col, c4, c11]), rfl⟩
abbrev rX1_columnAlong : Room := { frames := 2, cells := 0, slots := 0, locals := 42 }
set_option maxHeartbeats 4000000 in
set_option maxRecDepth 100000 in
theorem k_X1_columnAlong (l : Launch) (D : va_G) (cI cC : ClassId) (ws : va_W) (q qa k a : Nat) (f : Nat → Int32) (hk : ws[q]? = some (k, .inr (hsCi, [.ref a]))) (ha : ws[qa]? = some (a, .inl (cI, 144, .inl f))) (ax : Int32) (u0 : Int32) (v0 : Int32) : hsI l yX1_columnAlong wsX1_columnAlong rX1_columnAlong D vwCl (hsT cI cC) [.ref k, .int ax, .int u0, .int v0] ws (fun r w => r = hx_al f ax u0 v0 ∧ w = ws) := by
  refine hsI.enter (cc := cX1_columnAlong) (maxL := 7) (ret := (some .int)) (by decide) rfl (Nat.le_of_ble_eq_true rfl) ?_
  intro Pg En Ss Mi Ar Be Me Co AA QQ hQ h hr hlk
  refine hs_lv (lv' := [(0, .ref k), (1, .int ax), (2, .int u0), (3, .int v0)]) rfl ?_
  refine hv_iload_n h dX1_columnAlong_0 1 rfl rfl ?_
  refine hv_iconst h (2) dX1_columnAlong_1 (by decide) ?_
  refine hv_icmp_ne h 12 dX1_columnAlong_2 rfl (fun c2 => ?_) (fun c2 => ?_)
  · refine hv_iload_n h dX1_columnAlong_12 3 rfl rfl ?_
    refine hv_callp (ws' := ws) (v := hx_b (hx_in v0 12)) h (hr_SNi (n := 1) (rest := []) h (k_X0_isCoordinate l D cI cC ws v0) (List.mem_of_getElem? (i := 0) rfl) w_static_X0_isCoordinate w_initialized_X0 w_code_X0_isCoordinate (by decide +kernel) rfl rfl rfl ⟨by decide, by decide⟩ rfl (Nat.le_of_ble_eq_true rfl) ⟨Nat.zero_le _, Nat.zero_le _⟩ dX1_columnAlong_13) ?_
    refine hv_bif_ne h 21 dX1_columnAlong_16 rfl (fun c16 => ?_) (fun c16 => ?_)
    · refine hv_iconst h (0) dX1_columnAlong_21 (by decide) ?_
      refine hv_istore h [(4, .int 0), (0, .ref k), (1, .int ax), (2, .int u0), (3, .int v0)] dX1_columnAlong_22 (by decide) rfl ?_
      refine hv_iconst h (nI 0) dX1_columnAlong_24 (by decide) ?_
      refine hv_istore h [(5, .int (nI 0)), (4, .int 0), (0, .ref k), (1, .int ax), (2, .int u0), (3, .int v0)] dX1_columnAlong_25 (by decide) rfl ?_
      have L27 : ∀ d27 i27 : Nat, i27 + d27 = 12 → ∀ (b4 : Int32), b4 = hx_it (fun c b => b ||| ((((if ax = 0 then hx_col f (nI c) u0 else hx_col f u0 (nI c)) >>> (v0 &&& 31)) &&& 1) <<< (nI c &&& 31))) i27 0 → hsV Pg l En rX1_columnAlong Ss Mi Ar Be Me Co QQ 7 D vwCl AA Ss.heap 0 0 27 [(5, .int (nI i27)), (4, .int b4), (0, .ref k), (1, .int ax), (2, .int u0), (3, .int v0)] ws [] := by
        intro d27
        induction d27 with
        | zero =>
          intro i27 kq27 b4 e_b4
          obtain rfl : i27 = 12 := by omega
          refine hv_iload h dX1_columnAlong_27 0 rfl ?_
          refine hv_bipush h (nI 12) dX1_columnAlong_29 (by decide) ?_
          refine hv_icmp_ge h 77 dX1_columnAlong_31 rfl (fun c31 => ?_) (fun hc => absurd (Int32.le_refl _) hc)
          refine hv_iload h dX1_columnAlong_77 1 rfl ?_
          exact hv_iret h hr hlk hQ dX1_columnAlong_79 ⟨(by rw [e_b4]; simp [hx_b, hx_al, c2, c16, c31]), rfl⟩
        | succ d27 ih27 =>
          intro i27 kq27 b4 e_b4
          have hlt27 : i27 < 12 := by omega
          refine hv_iload h dX1_columnAlong_27 0 rfl ?_
          refine hv_bipush h (nI 12) dX1_columnAlong_29 (by decide) ?_
          refine hv_icmp_ge h 77 dX1_columnAlong_31 rfl (fun hc => absurd hc (nI_ge hlt27 (by decide))) (fun c31 => ?_)
          refine hv_iload_n h dX1_columnAlong_34 3 rfl rfl ?_
          refine hv_if_ne h 48 dX1_columnAlong_35 rfl (fun c35 => ?_) (fun c35 => ?_)
          · refine hv_aload_n h dX1_columnAlong_48 2 rfl rfl ?_
            refine hv_iload_n h dX1_columnAlong_49 4 rfl rfl ?_
            refine hv_iload h dX1_columnAlong_50 0 rfl ?_
            refine hv_callp (ws' := ws) (v := hx_col f u0 (nI i27)) h (hr_Vi (n := 2) (rest := []) h q hk rfl (k_X1_column l D cI cC ws q qa k a f hk ha u0 (nI i27)) w_methodLink_X1_19 w_instanceMethod_X1_column w_selects_X1_column w_initialized_X1 w_code_X1_column (by decide +kernel) rfl rfl rfl ⟨by decide, by decide⟩ rfl (Nat.le_of_ble_eq_true rfl) ⟨Nat.zero_le _, Nat.zero_le _⟩ dX1_columnAlong_52) ?_
            refine hv_istore h [(6, .int (hx_col f u0 (nI i27))), (5, .int (nI i27)), (4, .int b4), (0, .ref k), (1, .int ax), (2, .int u0), (3, .int v0)] dX1_columnAlong_55 (by decide) rfl ?_
            refine hv_iload h dX1_columnAlong_57 2 rfl ?_
            refine hv_iload h dX1_columnAlong_59 0 rfl ?_
            refine hv_iload_n h dX1_columnAlong_61 6 rfl rfl ?_
            refine hv_ishr h dX1_columnAlong_62 ?_
            refine hv_iconst h (1) dX1_columnAlong_63 (by decide) ?_
            refine hv_iand h dX1_columnAlong_64 ?_
            refine hv_iload h dX1_columnAlong_65 1 rfl ?_
            refine hv_ishl h dX1_columnAlong_67 ?_
            refine hv_ior h dX1_columnAlong_68 ?_
            refine hv_istore h [(4, .int (b4 ||| ((((hx_col f u0 (nI i27)) >>> (v0 &&& 31)) &&& 1) <<< ((nI i27) &&& 31)))), (6, .int (hx_col f u0 (nI i27))), (5, .int (nI i27)), (0, .ref k), (1, .int ax), (2, .int u0), (3, .int v0)] dX1_columnAlong_69 (by decide) rfl ?_
            refine hv_iinc h (nI (i27 + 1)) [(5, .int (nI (i27 + 1))), (4, .int (b4 ||| ((((hx_col f u0 (nI i27)) >>> (v0 &&& 31)) &&& 1) <<< ((nI i27) &&& 31)))), (6, .int (hx_col f u0 (nI i27))), (0, .ref k), (1, .int ax), (2, .int u0), (3, .int v0)] dX1_columnAlong_71 2 rfl (hs_inc _) (by decide) rfl ?_
            refine hv_goto h 27 dX1_columnAlong_74 rfl ?_
            refine hs_pick (lv' := [(5, .int (nI (i27 + 1))), (4, .int (b4 ||| ((((hx_col f u0 (nI i27)) >>> (v0 &&& 31)) &&& 1) <<< ((nI i27) &&& 31)))), (0, .ref k), (1, .int ax), (2, .int u0), (3, .int v0)]) [0, 1, 3, 4, 5, 6] rfl ?_
            exact ih27 (i27 + 1) (by omega) _ (by rw [hx_it_s, ← e_b4]; try first | assumption | with_reducible rfl | (simp [c2, c16, c31, c35]; done))
          · refine hv_aload_n h dX1_columnAlong_38 2 rfl rfl ?_
            refine hv_iload h dX1_columnAlong_39 0 rfl ?_
            refine hv_iload_n h dX1_columnAlong_41 4 rfl rfl ?_
            refine hv_callp (ws' := ws) (v := hx_col f (nI i27) u0) h (hr_Vi (n := 2) (rest := []) h q hk rfl (k_X1_column l D cI cC ws q qa k a f hk ha (nI i27) u0) w_methodLink_X1_19 w_instanceMethod_X1_column w_selects_X1_column w_initialized_X1 w_code_X1_column (by decide +kernel) rfl rfl rfl ⟨by decide, by decide⟩ rfl (Nat.le_of_ble_eq_true rfl) ⟨Nat.zero_le _, Nat.zero_le _⟩ dX1_columnAlong_42) ?_
            refine hv_goto h 55 dX1_columnAlong_45 rfl ?_
            refine hv_istore h [(6, .int (hx_col f (nI i27) u0)), (5, .int (nI i27)), (4, .int b4), (0, .ref k), (1, .int ax), (2, .int u0), (3, .int v0)] dX1_columnAlong_55 (by decide) rfl ?_
            refine hv_iload h dX1_columnAlong_57 2 rfl ?_
            refine hv_iload h dX1_columnAlong_59 0 rfl ?_
            refine hv_iload_n h dX1_columnAlong_61 6 rfl rfl ?_
            refine hv_ishr h dX1_columnAlong_62 ?_
            refine hv_iconst h (1) dX1_columnAlong_63 (by decide) ?_
            refine hv_iand h dX1_columnAlong_64 ?_
            refine hv_iload h dX1_columnAlong_65 1 rfl ?_
            refine hv_ishl h dX1_columnAlong_67 ?_
            refine hv_ior h dX1_columnAlong_68 ?_
            refine hv_istore h [(4, .int (b4 ||| ((((hx_col f (nI i27) u0) >>> (v0 &&& 31)) &&& 1) <<< ((nI i27) &&& 31)))), (6, .int (hx_col f (nI i27) u0)), (5, .int (nI i27)), (0, .ref k), (1, .int ax), (2, .int u0), (3, .int v0)] dX1_columnAlong_69 (by decide) rfl ?_
            refine hv_iinc h (nI (i27 + 1)) [(5, .int (nI (i27 + 1))), (4, .int (b4 ||| ((((hx_col f (nI i27) u0) >>> (v0 &&& 31)) &&& 1) <<< ((nI i27) &&& 31)))), (6, .int (hx_col f (nI i27) u0)), (0, .ref k), (1, .int ax), (2, .int u0), (3, .int v0)] dX1_columnAlong_71 2 rfl (hs_inc _) (by decide) rfl ?_
            refine hv_goto h 27 dX1_columnAlong_74 rfl ?_
            refine hs_pick (lv' := [(5, .int (nI (i27 + 1))), (4, .int (b4 ||| ((((hx_col f (nI i27) u0) >>> (v0 &&& 31)) &&& 1) <<< ((nI i27) &&& 31)))), (0, .ref k), (1, .int ax), (2, .int u0), (3, .int v0)]) [0, 1, 3, 4, 5, 6] rfl ?_
            exact ih27 (i27 + 1) (by omega) _ (by rw [hx_it_s, ← e_b4]; try first | assumption | with_reducible rfl | (simp [c2, c16, c31, c35]; done))
      exact L27 12 0 (by omega) _ rfl
    · refine hv_iconst h (0) dX1_columnAlong_19 (by decide) ?_
      exact hv_iret h hr hlk hQ dX1_columnAlong_20 ⟨(by first | with_reducible rfl | simp [hx_b, hx_al, c2, c16]), rfl⟩
  · refine hv_aload_n h dX1_columnAlong_5 0 rfl rfl ?_
    refine hv_iload_n h dX1_columnAlong_6 2 rfl rfl ?_
    refine hv_iload_n h dX1_columnAlong_7 3 rfl rfl ?_
    refine hv_callp (ws' := ws) (v := hx_col f u0 v0) h (hr_Vi (n := 2) (rest := []) h q hk rfl (k_X1_column l D cI cC ws q qa k a f hk ha u0 v0) w_methodLink_X1_19 w_instanceMethod_X1_column w_selects_X1_column w_initialized_X1 w_code_X1_column (by decide +kernel) rfl rfl rfl ⟨by decide, by decide⟩ rfl (Nat.le_of_ble_eq_true rfl) ⟨Nat.zero_le _, Nat.zero_le _⟩ dX1_columnAlong_8) ?_
    exact hv_iret h hr hlk hQ dX1_columnAlong_11 ⟨(by first | with_reducible rfl | simp [hx_b, hx_al, c2]), rfl⟩
abbrev rX1_countCells : Room := { frames := 1, cells := 0, slots := 0, locals := 20 }
set_option maxHeartbeats 4000000 in
set_option maxRecDepth 100000 in
theorem k_X1_countCells (l : Launch) (D : va_G) (cI cC : ClassId) (ws : va_W) (q qa k a : Nat) (f : Nat → Int32) (hk : ws[q]? = some (k, .inr (hsCi, [.ref a]))) (ha : ws[qa]? = some (a, .inl (cI, 144, .inl f)))  : hsI l yX1_countCells wsX1_countCells rX1_countCells D vwCl (hsT cI cC) [.ref k] ws (fun r w => r = hx_cnt f ∧ w = ws) := by
  refine hsI.enter (cc := cX1_countCells) (maxL := 3) (ret := (some .int)) (by decide) rfl (Nat.le_of_ble_eq_true rfl) ?_
  intro Pg En Ss Mi Ar Be Me Co AA QQ hQ h hr hlk
  refine hs_lv (lv' := [(0, .ref k)]) rfl ?_
  refine hv_iconst h (0) dX1_countCells_0 (by decide) ?_
  refine hv_istore_n h [(1, .int 0), (0, .ref k)] dX1_countCells_1 rfl (by decide) rfl ?_
  refine hv_iconst h (nI 0) dX1_countCells_2 (by decide) ?_
  refine hv_istore_n h [(2, .int (nI 0)), (1, .int 0), (0, .ref k)] dX1_countCells_3 rfl (by decide) rfl ?_
  have L4 : ∀ d4 i4 : Nat, i4 + d4 = 144 → ∀ (b1 : Int32), b1 = hx_it (fun i n => n + hj_bc (f i)) i4 0 → hsV Pg l En rX1_countCells Ss Mi Ar Be Me Co QQ 3 D vwCl AA Ss.heap 0 0 4 [(2, .int (nI i4)), (1, .int b1), (0, .ref k)] ws [] := by
    intro d4
    induction d4 with
    | zero =>
      intro i4 kq4 b1 e_b1
      obtain rfl : i4 = 144 := by omega
      refine hv_iload_n h dX1_countCells_4 0 rfl rfl ?_
      refine hv_sipush h (nI 144) dX1_countCells_5 (by decide) ?_
      refine hv_icmp_ge h 29 dX1_countCells_8 rfl (fun c8 => ?_) (fun hc => absurd (Int32.le_refl _) hc)
      refine hv_iload_n h dX1_countCells_29 1 rfl rfl ?_
      exact hv_iret h hr hlk hQ dX1_countCells_30 ⟨(by rw [e_b1]; rfl), rfl⟩
    | succ d4 ih4 =>
      intro i4 kq4 b1 e_b1
      have hlt4 : i4 < 144 := by omega
      refine hv_iload_n h dX1_countCells_4 0 rfl rfl ?_
      refine hv_sipush h (nI 144) dX1_countCells_5 (by decide) ?_
      refine hv_icmp_ge h 29 dX1_countCells_8 rfl (fun hc => absurd hc (nI_ge hlt4 (by decide))) (fun c8 => ?_)
      refine hv_iload_n h dX1_countCells_11 1 rfl rfl ?_
      refine hv_aload_n h dX1_countCells_12 2 rfl rfl ?_
      refine hv_get (C := RX1) (T := TX1) (N := 1) h q hk rfl 0 (by decide) wu_X1 w_fieldLink_X1_9 (fun _ h9 => h9) rfl dX1_countCells_13 ?_
      refine hv_iload_n h dX1_countCells_16 0 rfl rfl ?_
      refine hv_iald (v := f i4) h qa 0 ha rfl (vp_in_nI (by omega) (by decide)) (by rw [nI_clamp (by omega)]) dX1_countCells_17 ?_
      refine hv_callp (ws' := ws) (v := hj_bc (f i4)) h (hr_Si (n := 1) (rest := [.int b1]) h (k_X5_bitCount l D cI cC ws (f i4)) w_methodLink_X1_40 w_static_X5_bitCount w_initialized_X5 w_code_X5_bitCount (by decide +kernel) rfl rfl rfl ⟨by decide, by decide⟩ rfl (Nat.le_of_ble_eq_true rfl) ⟨Nat.zero_le _, Nat.zero_le _⟩ dX1_countCells_18) ?_
      refine hv_iadd h dX1_countCells_21 ?_
      refine hv_istore_n h [(1, .int (b1 + (hj_bc (f i4)))), (2, .int (nI i4)), (0, .ref k)] dX1_countCells_22 rfl (by decide) rfl ?_
      refine hv_iinc h (nI (i4 + 1)) [(2, .int (nI (i4 + 1))), (1, .int (b1 + (hj_bc (f i4)))), (0, .ref k)] dX1_countCells_23 1 rfl (hs_inc _) (by decide) rfl ?_
      refine hv_goto h 4 dX1_countCells_26 rfl ?_
      exact ih4 (i4 + 1) (by omega) _ (by rw [hx_it_s, ← e_b1]; try first | assumption | with_reducible rfl | (simp [c8]; done))
  exact L4 144 0 (by omega) _ rfl
abbrev rX1_countLayer : Room := { frames := 3, cells := 0, slots := 0, locals := 68 }
set_option maxHeartbeats 4000000 in
set_option maxRecDepth 100000 in
theorem k_X1_countLayer (l : Launch) (D : va_G) (cI cC : ClassId) (ws : va_W) (q qa k a : Nat) (f : Nat → Int32) (hk : ws[q]? = some (k, .inr (hsCi, [.ref a]))) (ha : ws[qa]? = some (a, .inl (cI, 144, .inl f))) (ax : Int32) (w0 : Int32) : hsI l yX1_countLayer wsX1_countLayer rX1_countLayer D vwCl (hsT cI cC) [.ref k, .int ax, .int w0] ws (fun r w => r = hx_layer f ax w0 ∧ w = ws) := by
  refine hsI.enter (cc := cX1_countLayer) (maxL := 5) (ret := (some .int)) (by decide) rfl (Nat.le_of_ble_eq_true rfl) ?_
  intro Pg En Ss Mi Ar Be Me Co AA QQ hQ h hr hlk
  refine hs_lv (lv' := [(0, .ref k), (1, .int ax), (2, .int w0)]) rfl ?_
  refine hv_iconst h (0) dX1_countLayer_0 (by decide) ?_
  refine hv_istore_n h [(3, .int 0), (0, .ref k), (1, .int ax), (2, .int w0)] dX1_countLayer_1 rfl (by decide) rfl ?_
  refine hv_iconst h (nI 0) dX1_countLayer_2 (by decide) ?_
  refine hv_istore h [(4, .int (nI 0)), (3, .int 0), (0, .ref k), (1, .int ax), (2, .int w0)] dX1_countLayer_3 (by decide) rfl ?_
  have L5 : ∀ d5 i5 : Nat, i5 + d5 = 12 → ∀ (b3 : Int32), b3 = hx_it (fun i n => n + hj_bc (if ax = 0 then hx_col f w0 (nI i) else if ax = 1 then hx_col f (nI i) w0 else hx_al f 0 (nI i) w0)) i5 0 → hsV Pg l En rX1_countLayer Ss Mi Ar Be Me Co QQ 5 D vwCl AA Ss.heap 0 0 5 [(4, .int (nI i5)), (3, .int b3), (0, .ref k), (1, .int ax), (2, .int w0)] ws [] := by
    intro d5
    induction d5 with
    | zero =>
      intro i5 kq5 b3 e_b3
      obtain rfl : i5 = 12 := by omega
      refine hv_iload h dX1_countLayer_5 0 rfl ?_
      refine hv_bipush h (nI 12) dX1_countLayer_7 (by decide) ?_
      refine hv_icmp_ge h 73 dX1_countLayer_9 rfl (fun c9 => ?_) (fun hc => absurd (Int32.le_refl _) hc)
      refine hv_iload_n h dX1_countLayer_73 1 rfl rfl ?_
      exact hv_iret h hr hlk hQ dX1_countLayer_74 ⟨(by rw [e_b3]; rfl), rfl⟩
    | succ d5 ih5 =>
      intro i5 kq5 b3 e_b3
      have hlt5 : i5 < 12 := by omega
      refine hv_iload h dX1_countLayer_5 0 rfl ?_
      refine hv_bipush h (nI 12) dX1_countLayer_7 (by decide) ?_
      refine hv_icmp_ge h 73 dX1_countLayer_9 rfl (fun hc => absurd hc (nI_ge hlt5 (by decide))) (fun c9 => ?_)
      refine hv_iload_n h dX1_countLayer_12 3 rfl rfl ?_
      refine hv_if_ne h 32 dX1_countLayer_13 rfl (fun c13 => ?_) (fun c13 => ?_)
      · refine hv_iload_n h dX1_countLayer_32 3 rfl rfl ?_
        refine hv_iconst h (1) dX1_countLayer_33 (by decide) ?_
        refine hv_icmp_ne h 53 dX1_countLayer_34 rfl (fun c34 => ?_) (fun c34 => ?_)
        · refine hv_iload_n h dX1_countLayer_53 1 rfl rfl ?_
          refine hv_aload_n h dX1_countLayer_54 2 rfl rfl ?_
          refine hv_iconst h (0) dX1_countLayer_55 (by decide) ?_
          refine hv_iload h dX1_countLayer_56 0 rfl ?_
          refine hv_iload_n h dX1_countLayer_58 4 rfl rfl ?_
          refine hv_callp (ws' := ws) (v := hx_al f 0 (nI i5) w0) h (hr_Vi (n := 3) (rest := [.int b3]) h q hk rfl (k_X1_columnAlong l D cI cC ws q qa k a f hk ha 0 (nI i5) w0) w_methodLink_X1_23 w_instanceMethod_X1_columnAlong w_selects_X1_columnAlong w_initialized_X1 w_code_X1_columnAlong (by decide +kernel) rfl rfl rfl ⟨by decide, by decide⟩ rfl (Nat.le_of_ble_eq_true rfl) ⟨Nat.zero_le _, Nat.zero_le _⟩ dX1_countLayer_59) ?_
          refine hv_callp (ws' := ws) (v := hj_bc (hx_al f 0 (nI i5) w0)) h (hr_Si (n := 1) (rest := [.int b3]) h (k_X5_bitCount l D cI cC ws (hx_al f 0 (nI i5) w0)) w_methodLink_X1_40 w_static_X5_bitCount w_initialized_X5 w_code_X5_bitCount (by decide +kernel) rfl rfl rfl ⟨by decide, by decide⟩ rfl (Nat.le_of_ble_eq_true rfl) ⟨Nat.zero_le _, Nat.zero_le _⟩ dX1_countLayer_62) ?_
          refine hv_iadd h dX1_countLayer_65 ?_
          refine hv_istore_n h [(3, .int (b3 + (hj_bc (hx_al f 0 (nI i5) w0)))), (4, .int (nI i5)), (0, .ref k), (1, .int ax), (2, .int w0)] dX1_countLayer_66 rfl (by decide) rfl ?_
          refine hv_iinc h (nI (i5 + 1)) [(4, .int (nI (i5 + 1))), (3, .int (b3 + (hj_bc (hx_al f 0 (nI i5) w0)))), (0, .ref k), (1, .int ax), (2, .int w0)] dX1_countLayer_67 1 rfl (hs_inc _) (by decide) rfl ?_
          refine hv_goto h 5 dX1_countLayer_70 rfl ?_
          exact ih5 (i5 + 1) (by omega) _ (by rw [hx_it_s, ← e_b3]; try first | assumption | with_reducible rfl | (simp [c9, c13, c34]; done))
        · refine hv_iload_n h dX1_countLayer_37 1 rfl rfl ?_
          refine hv_aload_n h dX1_countLayer_38 2 rfl rfl ?_
          refine hv_iload h dX1_countLayer_39 0 rfl ?_
          refine hv_iload_n h dX1_countLayer_41 4 rfl rfl ?_
          refine hv_callp (ws' := ws) (v := hx_col f (nI i5) w0) h (hr_Vi (n := 2) (rest := [.int b3]) h q hk rfl (k_X1_column l D cI cC ws q qa k a f hk ha (nI i5) w0) w_methodLink_X1_19 w_instanceMethod_X1_column w_selects_X1_column w_initialized_X1 w_code_X1_column (by decide +kernel) rfl rfl rfl ⟨by decide, by decide⟩ rfl (Nat.le_of_ble_eq_true rfl) ⟨Nat.zero_le _, Nat.zero_le _⟩ dX1_countLayer_42) ?_
          refine hv_callp (ws' := ws) (v := hj_bc (hx_col f (nI i5) w0)) h (hr_Si (n := 1) (rest := [.int b3]) h (k_X5_bitCount l D cI cC ws (hx_col f (nI i5) w0)) w_methodLink_X1_40 w_static_X5_bitCount w_initialized_X5 w_code_X5_bitCount (by decide +kernel) rfl rfl rfl ⟨by decide, by decide⟩ rfl (Nat.le_of_ble_eq_true rfl) ⟨Nat.zero_le _, Nat.zero_le _⟩ dX1_countLayer_45) ?_
          refine hv_iadd h dX1_countLayer_48 ?_
          refine hv_istore_n h [(3, .int (b3 + (hj_bc (hx_col f (nI i5) w0)))), (4, .int (nI i5)), (0, .ref k), (1, .int ax), (2, .int w0)] dX1_countLayer_49 rfl (by decide) rfl ?_
          refine hv_goto h 67 dX1_countLayer_50 rfl ?_
          refine hv_iinc h (nI (i5 + 1)) [(4, .int (nI (i5 + 1))), (3, .int (b3 + (hj_bc (hx_col f (nI i5) w0)))), (0, .ref k), (1, .int ax), (2, .int w0)] dX1_countLayer_67 1 rfl (hs_inc _) (by decide) rfl ?_
          refine hv_goto h 5 dX1_countLayer_70 rfl ?_
          exact ih5 (i5 + 1) (by omega) _ (by rw [hx_it_s, ← e_b3]; try first | assumption | with_reducible rfl | (simp [c9, c13, c34]; done))
      · refine hv_iload_n h dX1_countLayer_16 1 rfl rfl ?_
        refine hv_aload_n h dX1_countLayer_17 2 rfl rfl ?_
        refine hv_iload_n h dX1_countLayer_18 4 rfl rfl ?_
        refine hv_iload h dX1_countLayer_19 0 rfl ?_
        refine hv_callp (ws' := ws) (v := hx_col f w0 (nI i5)) h (hr_Vi (n := 2) (rest := [.int b3]) h q hk rfl (k_X1_column l D cI cC ws q qa k a f hk ha w0 (nI i5)) w_methodLink_X1_19 w_instanceMethod_X1_column w_selects_X1_column w_initialized_X1 w_code_X1_column (by decide +kernel) rfl rfl rfl ⟨by decide, by decide⟩ rfl (Nat.le_of_ble_eq_true rfl) ⟨Nat.zero_le _, Nat.zero_le _⟩ dX1_countLayer_21) ?_
        refine hv_callp (ws' := ws) (v := hj_bc (hx_col f w0 (nI i5))) h (hr_Si (n := 1) (rest := [.int b3]) h (k_X5_bitCount l D cI cC ws (hx_col f w0 (nI i5))) w_methodLink_X1_40 w_static_X5_bitCount w_initialized_X5 w_code_X5_bitCount (by decide +kernel) rfl rfl rfl ⟨by decide, by decide⟩ rfl (Nat.le_of_ble_eq_true rfl) ⟨Nat.zero_le _, Nat.zero_le _⟩ dX1_countLayer_24) ?_
        refine hv_iadd h dX1_countLayer_27 ?_
        refine hv_istore_n h [(3, .int (b3 + (hj_bc (hx_col f w0 (nI i5))))), (4, .int (nI i5)), (0, .ref k), (1, .int ax), (2, .int w0)] dX1_countLayer_28 rfl (by decide) rfl ?_
        refine hv_goto h 67 dX1_countLayer_29 rfl ?_
        refine hv_iinc h (nI (i5 + 1)) [(4, .int (nI (i5 + 1))), (3, .int (b3 + (hj_bc (hx_col f w0 (nI i5))))), (0, .ref k), (1, .int ax), (2, .int w0)] dX1_countLayer_67 1 rfl (hs_inc _) (by decide) rfl ?_
        refine hv_goto h 5 dX1_countLayer_70 rfl ?_
        exact ih5 (i5 + 1) (by omega) _ (by rw [hx_it_s, ← e_b3]; try first | assumption | with_reducible rfl | (simp [c9, c13]; done))
  exact L5 12 0 (by omega) _ rfl
abbrev rX1_leastAlong : Room := { frames := 4, cells := 0, slots := 0, locals := 92 }
set_option maxHeartbeats 4000000 in
set_option maxRecDepth 100000 in
theorem k_X1_leastAlong (l : Launch) (D : va_G) (cI cC : ClassId) (ws : va_W) (q qa k a : Nat) (f : Nat → Int32) (hk : ws[q]? = some (k, .inr (hsCi, [.ref a]))) (ha : ws[qa]? = some (a, .inl (cI, 144, .inl f))) (ax : Int32) : hsI l yX1_leastAlong wsX1_leastAlong rX1_leastAlong D vwCl (hsT cI cC) [.ref k, .int ax] ws (fun r w => r = hx_least f ax ∧ w = ws) := by
  refine hsI.enter (cc := cX1_leastAlong) (maxL := 3) (ret := (some .int)) (by decide) rfl (Nat.le_of_ble_eq_true rfl) ?_
  intro Pg En Ss Mi Ar Be Me Co AA QQ hQ h hr hlk
  refine hs_lv (lv' := [(0, .ref k), (1, .int ax)]) rfl ?_
  refine hv_iconst h (nI 0) dX1_leastAlong_0 (by decide) ?_
  refine hv_istore_n h [(2, .int (nI 0)), (0, .ref k), (1, .int ax)] dX1_leastAlong_1 rfl (by decide) rfl ?_
  have L2 : ∀ d2 i2 : Nat, i2 + d2 = 12 → hx_fst (fun w => decide (0 < hx_layer f ax (nI w))) d2 i2 = hx_fst (fun w => decide (0 < hx_layer f ax (nI w))) 12 0 → hsV Pg l En rX1_leastAlong Ss Mi Ar Be Me Co QQ 3 D vwCl AA Ss.heap 0 0 2 [(2, .int (nI i2)), (0, .ref k), (1, .int ax)] ws [] := by
    intro d2
    induction d2 with
    | zero =>
      intro i2 kq2 g
      obtain rfl : i2 = 12 := by omega
      refine hv_iload_n h dX1_leastAlong_2 0 rfl rfl ?_
      refine hv_bipush h (nI 12) dX1_leastAlong_3 (by decide) ?_
      refine hv_icmp_ge h 25 dX1_leastAlong_5 rfl (fun c5 => ?_) (fun hc => absurd (Int32.le_refl _) hc)
      refine hv_bipush h (12) dX1_leastAlong_25 (by decide) ?_
      exact hv_iret h hr hlk hQ dX1_leastAlong_27 ⟨(by unfold hx_least; rw [← g]; rfl), rfl⟩
    | succ d2 ih2 =>
      intro i2 kq2 g
      have hlt2 : i2 < 12 := by omega
      refine hv_iload_n h dX1_leastAlong_2 0 rfl rfl ?_
      refine hv_bipush h (nI 12) dX1_leastAlong_3 (by decide) ?_
      refine hv_icmp_ge h 25 dX1_leastAlong_5 rfl (fun hc => absurd hc (nI_ge hlt2 (by decide))) (fun c5 => ?_)
      refine hv_aload_n h dX1_leastAlong_8 1 rfl rfl ?_
      refine hv_iload_n h dX1_leastAlong_9 2 rfl rfl ?_
      refine hv_iload_n h dX1_leastAlong_10 0 rfl rfl ?_
      refine hv_callp (ws' := ws) (v := hx_layer f ax (nI i2)) h (hr_Vi (n := 2) (rest := []) h q hk rfl (k_X1_countLayer l D cI cC ws q qa k a f hk ha ax (nI i2)) w_methodLink_X1_46 w_instanceMethod_X1_countLayer w_selects_X1_countLayer w_initialized_X1 w_code_X1_countLayer (by decide +kernel) rfl rfl rfl ⟨by decide, by decide⟩ rfl (Nat.le_of_ble_eq_true rfl) ⟨Nat.zero_le _, Nat.zero_le _⟩ dX1_leastAlong_11) ?_
      refine hv_if_le h 19 dX1_leastAlong_14 rfl (fun c14 => ?_) (fun c14 => ?_)
      · refine hv_iinc h (nI (i2 + 1)) [(2, .int (nI (i2 + 1))), (0, .ref k), (1, .int ax)] dX1_leastAlong_19 0 rfl (hs_inc _) (by decide) rfl ?_
        refine hv_goto h 2 dX1_leastAlong_22 rfl ?_
        exact ih2 (i2 + 1) (by omega) (by simpa [hx_fst, Int32.not_lt.mpr c14] using g)
      · refine hv_iload_n h dX1_leastAlong_17 0 rfl rfl ?_
        exact hv_iret h hr hlk hQ dX1_leastAlong_18 ⟨(by unfold hx_least; rw [← g]; simp [hx_fst, Int32.not_le.mp c14]), rfl⟩
  exact L2 12 0 (by omega) rfl
abbrev rX1_greatestAlong : Room := { frames := 4, cells := 0, slots := 0, locals := 92 }
set_option maxHeartbeats 4000000 in
set_option maxRecDepth 100000 in
theorem k_X1_greatestAlong (l : Launch) (D : va_G) (cI cC : ClassId) (ws : va_W) (q qa k a : Nat) (f : Nat → Int32) (hk : ws[q]? = some (k, .inr (hsCi, [.ref a]))) (ha : ws[qa]? = some (a, .inl (cI, 144, .inl f))) (ax : Int32) : hsI l yX1_greatestAlong wsX1_greatestAlong rX1_greatestAlong D vwCl (hsT cI cC) [.ref k, .int ax] ws (fun r w => r = hx_great f ax ∧ w = ws) := by
  refine hsI.enter (cc := cX1_greatestAlong) (maxL := 3) (ret := (some .int)) (by decide) rfl (Nat.le_of_ble_eq_true rfl) ?_
  intro Pg En Ss Mi Ar Be Me Co AA QQ hQ h hr hlk
  refine hs_lv (lv' := [(0, .ref k), (1, .int ax)]) rfl ?_
  refine hv_bipush h (11) dX1_greatestAlong_0 (by decide) ?_
  refine hv_istore_n h [(2, .int 11), (0, .ref k), (1, .int ax)] dX1_greatestAlong_2 rfl (by decide) rfl ?_
  have L3 : ∀ j : Nat, j ≤ 12 → hx_lst (fun w => decide (0 < hx_layer f ax (nI w))) j = hx_lst (fun w => decide (0 < hx_layer f ax (nI w))) 12 → hsV Pg l En rX1_greatestAlong Ss Mi Ar Be Me Co QQ 3 D vwCl AA Ss.heap 0 0 3 [(2, .int (hx_dn j)), (0, .ref k), (1, .int ax)] ws [] := by
    intro j
    induction j with
    | zero =>
      intro kj g
      refine hs_lv (lv' := [(2, .int (-1)), (0, .ref k), (1, .int ax)]) rfl ?_
      refine hv_iload_n h dX1_greatestAlong_3 0 rfl rfl ?_
      refine hv_if_lt h 24 dX1_greatestAlong_4 rfl (fun c4 => ?_) (fun hc => absurd (by decide) hc)
      refine hv_bipush h (12) dX1_greatestAlong_24 (by decide) ?_
      exact hv_iret h hr hlk hQ dX1_greatestAlong_26 ⟨(by unfold hx_great; rw [← g]; rfl), rfl⟩
    | succ n ih3 =>
      intro kj g
      refine hs_lv (lv' := [(2, .int (nI n)), (0, .ref k), (1, .int ax)]) rfl ?_
      refine hv_iload_n h dX1_greatestAlong_3 0 rfl rfl ?_
      refine hv_if_lt h 24 dX1_greatestAlong_4 rfl (fun hc => absurd hc (nI_pos (by omega))) (fun c4 => ?_)
      refine hv_aload_n h dX1_greatestAlong_7 1 rfl rfl ?_
      refine hv_iload_n h dX1_greatestAlong_8 2 rfl rfl ?_
      refine hv_iload_n h dX1_greatestAlong_9 0 rfl rfl ?_
      refine hv_callp (ws' := ws) (v := hx_layer f ax (nI n)) h (hr_Vi (n := 2) (rest := []) h q hk rfl (k_X1_countLayer l D cI cC ws q qa k a f hk ha ax (nI n)) w_methodLink_X1_46 w_instanceMethod_X1_countLayer w_selects_X1_countLayer w_initialized_X1 w_code_X1_countLayer (by decide +kernel) rfl rfl rfl ⟨by decide, by decide⟩ rfl (Nat.le_of_ble_eq_true rfl) ⟨Nat.zero_le _, Nat.zero_le _⟩ dX1_greatestAlong_10) ?_
      refine hv_if_le h 18 dX1_greatestAlong_13 rfl (fun c13 => ?_) (fun c13 => ?_)
      · refine hv_iinc h (hx_dn n) [(2, .int (hx_dn n)), (0, .ref k), (1, .int ax)] dX1_greatestAlong_18 0 rfl (hs_dn _) (by decide) rfl ?_
        refine hv_goto h 3 dX1_greatestAlong_21 rfl ?_
        exact ih3 (by omega) (by simpa [hx_lst, Int32.not_lt.mpr c13] using g)
      · refine hv_iload_n h dX1_greatestAlong_16 0 rfl rfl ?_
        exact hv_iret h hr hlk hQ dX1_greatestAlong_17 ⟨(by unfold hx_great; rw [← g]; simp [hx_lst, Int32.not_le.mp c13]), rfl⟩
  exact L3 12 (by omega) rfl
abbrev rX1_countPair : Room := { frames := 2, cells := 0, slots := 0, locals := 42 }
set_option maxHeartbeats 4000000 in
set_option maxRecDepth 100000 in
theorem k_X1_countPair (l : Launch) (D : va_G) (cI cC : ClassId) (ws : va_W) (q qa k a : Nat) (f : Nat → Int32) (hk : ws[q]? = some (k, .inr (hsCi, [.ref a]))) (ha : ws[qa]? = some (a, .inl (cI, 144, .inl f))) (x0 : Int32) (y0 : Int32) (z0 : Int32) : hsI l yX1_countPair wsX1_countPair rX1_countPair D vwCl (hsT cI cC) [.ref k, .int x0, .int y0, .int z0] ws (fun r w => r = hx_pair f x0 y0 z0 ∧ w = ws) := by
  refine hsI.enter (cc := cX1_countPair) (maxL := 4) (ret := (some .int)) (by decide) rfl (Nat.le_of_ble_eq_true rfl) ?_
  intro Pg En Ss Mi Ar Be Me Co AA QQ hQ h hr hlk
  refine hs_lv (lv' := [(0, .ref k), (1, .int x0), (2, .int y0), (3, .int z0)]) rfl ?_
  refine hv_aload_n h dX1_countPair_0 0 rfl rfl ?_
  refine hv_iload_n h dX1_countPair_1 1 rfl rfl ?_
  refine hv_iload_n h dX1_countPair_2 2 rfl rfl ?_
  refine hv_callp (ws' := ws) (v := hx_col f x0 y0) h (hr_Vi (n := 2) (rest := []) h q hk rfl (k_X1_column l D cI cC ws q qa k a f hk ha x0 y0) w_methodLink_X1_19 w_instanceMethod_X1_column w_selects_X1_column w_initialized_X1 w_code_X1_column (by decide +kernel) rfl rfl rfl ⟨by decide, by decide⟩ rfl (Nat.le_of_ble_eq_true rfl) ⟨Nat.zero_le _, Nat.zero_le _⟩ dX1_countPair_3) ?_
  refine hv_iconst h (1) dX1_countPair_6 (by decide) ?_
  refine hv_ishl h dX1_countPair_7 ?_
  refine hv_iload_n h dX1_countPair_8 3 rfl rfl ?_
  refine hv_ishr h dX1_countPair_9 ?_
  refine hv_iconst h (3) dX1_countPair_10 (by decide) ?_
  refine hv_iand h dX1_countPair_11 ?_
  refine hv_callp (ws' := ws) (v := hj_bc ((((hx_col f x0 y0) <<< ((1 : Int32) &&& 31)) >>> (z0 &&& 31)) &&& 3)) h (hr_Si (n := 1) (rest := []) h (k_X5_bitCount l D cI cC ws ((((hx_col f x0 y0) <<< ((1 : Int32) &&& 31)) >>> (z0 &&& 31)) &&& 3)) w_methodLink_X1_40 w_static_X5_bitCount w_initialized_X5 w_code_X5_bitCount (by decide +kernel) rfl rfl rfl ⟨by decide, by decide⟩ rfl (Nat.le_of_ble_eq_true rfl) ⟨Nat.zero_le _, Nat.zero_le _⟩ dX1_countPair_12) ?_
  exact hv_iret h hr hlk hQ dX1_countPair_15 ⟨rfl, rfl⟩
abbrev rX1_countAround : Room := { frames := 3, cells := 0, slots := 0, locals := 65 }
set_option maxHeartbeats 4000000 in
set_option maxRecDepth 100000 in
theorem k_X1_countAround (l : Launch) (D : va_G) (cI cC : ClassId) (ws : va_W) (q qa k a : Nat) (f : Nat → Int32) (hk : ws[q]? = some (k, .inr (hsCi, [.ref a]))) (ha : ws[qa]? = some (a, .inl (cI, 144, .inl f))) (x0 : Int32) (y0 : Int32) (z0 : Int32) : hsI l yX1_countAround wsX1_countAround rX1_countAround D vwCl (hsT cI cC) [.ref k, .int x0, .int y0, .int z0] ws (fun r w => r = hx_ar f x0 y0 z0 ∧ w = ws) := by
  refine hsI.enter (cc := cX1_countAround) (maxL := 4) (ret := (some .int)) (by decide) rfl (Nat.le_of_ble_eq_true rfl) ?_
  intro Pg En Ss Mi Ar Be Me Co AA QQ hQ h hr hlk
  refine hs_lv (lv' := [(0, .ref k), (1, .int x0), (2, .int y0), (3, .int z0)]) rfl ?_
  refine hv_aload_n h dX1_countAround_0 0 rfl rfl ?_
  refine hv_iload_n h dX1_countAround_1 1 rfl rfl ?_
  refine hv_iconst h (1) dX1_countAround_2 (by decide) ?_
  refine hv_isub h dX1_countAround_3 ?_
  refine hv_iload_n h dX1_countAround_4 2 rfl rfl ?_
  refine hv_iconst h (1) dX1_countAround_5 (by decide) ?_
  refine hv_isub h dX1_countAround_6 ?_
  refine hv_iload_n h dX1_countAround_7 3 rfl rfl ?_
  refine hv_callp (ws' := ws) (v := hx_pair f (x0 - 1) (y0 - 1) z0) h (hr_Vi (n := 3) (rest := []) h q hk rfl (k_X1_countPair l D cI cC ws q qa k a f hk ha (x0 - 1) (y0 - 1) z0) w_methodLink_X1_56 w_instanceMethod_X1_countPair w_selects_X1_countPair w_initialized_X1 w_code_X1_countPair (by decide +kernel) rfl rfl rfl ⟨by decide, by decide⟩ rfl (Nat.le_of_ble_eq_true rfl) ⟨Nat.zero_le _, Nat.zero_le _⟩ dX1_countAround_8) ?_
  refine hv_aload_n h dX1_countAround_11 0 rfl rfl ?_
  refine hv_iload_n h dX1_countAround_12 1 rfl rfl ?_
  refine hv_iconst h (1) dX1_countAround_13 (by decide) ?_
  refine hv_isub h dX1_countAround_14 ?_
  refine hv_iload_n h dX1_countAround_15 2 rfl rfl ?_
  refine hv_iload_n h dX1_countAround_16 3 rfl rfl ?_
  refine hv_callp (ws' := ws) (v := hx_pair f (x0 - 1) y0 z0) h (hr_Vi (n := 3) (rest := [.int (hx_pair f (x0 - 1) (y0 - 1) z0)]) h q hk rfl (k_X1_countPair l D cI cC ws q qa k a f hk ha (x0 - 1) y0 z0) w_methodLink_X1_56 w_instanceMethod_X1_countPair w_selects_X1_countPair w_initialized_X1 w_code_X1_countPair (by decide +kernel) rfl rfl rfl ⟨by decide, by decide⟩ rfl (Nat.le_of_ble_eq_true rfl) ⟨Nat.zero_le _, Nat.zero_le _⟩ dX1_countAround_17) ?_
  refine hv_iadd h dX1_countAround_20 ?_
  refine hv_aload_n h dX1_countAround_21 0 rfl rfl ?_
  refine hv_iload_n h dX1_countAround_22 1 rfl rfl ?_
  refine hv_iload_n h dX1_countAround_23 2 rfl rfl ?_
  refine hv_iconst h (1) dX1_countAround_24 (by decide) ?_
  refine hv_isub h dX1_countAround_25 ?_
  refine hv_iload_n h dX1_countAround_26 3 rfl rfl ?_
  refine hv_callp (ws' := ws) (v := hx_pair f x0 (y0 - 1) z0) h (hr_Vi (n := 3) (rest := [.int ((hx_pair f (x0 - 1) (y0 - 1) z0) + (hx_pair f (x0 - 1) y0 z0))]) h q hk rfl (k_X1_countPair l D cI cC ws q qa k a f hk ha x0 (y0 - 1) z0) w_methodLink_X1_56 w_instanceMethod_X1_countPair w_selects_X1_countPair w_initialized_X1 w_code_X1_countPair (by decide +kernel) rfl rfl rfl ⟨by decide, by decide⟩ rfl (Nat.le_of_ble_eq_true rfl) ⟨Nat.zero_le _, Nat.zero_le _⟩ dX1_countAround_27) ?_
  refine hv_iadd h dX1_countAround_30 ?_
  refine hv_aload_n h dX1_countAround_31 0 rfl rfl ?_
  refine hv_iload_n h dX1_countAround_32 1 rfl rfl ?_
  refine hv_iload_n h dX1_countAround_33 2 rfl rfl ?_
  refine hv_iload_n h dX1_countAround_34 3 rfl rfl ?_
  refine hv_callp (ws' := ws) (v := hx_pair f x0 y0 z0) h (hr_Vi (n := 3) (rest := [.int (((hx_pair f (x0 - 1) (y0 - 1) z0) + (hx_pair f (x0 - 1) y0 z0)) + (hx_pair f x0 (y0 - 1) z0))]) h q hk rfl (k_X1_countPair l D cI cC ws q qa k a f hk ha x0 y0 z0) w_methodLink_X1_56 w_instanceMethod_X1_countPair w_selects_X1_countPair w_initialized_X1 w_code_X1_countPair (by decide +kernel) rfl rfl rfl ⟨by decide, by decide⟩ rfl (Nat.le_of_ble_eq_true rfl) ⟨Nat.zero_le _, Nat.zero_le _⟩ dX1_countAround_35) ?_
  refine hv_iadd h dX1_countAround_38 ?_
  exact hv_iret h hr hlk hQ dX1_countAround_39 ⟨rfl, rfl⟩
abbrev rX1_hasCellsOf : Room := { frames := 0, cells := 0, slots := 0, locals := 0 }
set_option maxHeartbeats 4000000 in
set_option maxRecDepth 100000 in
theorem k_X1_hasCellsOf (l : Launch) (D : va_G) (cI cC : ClassId) (ws : va_W) (q qa k a : Nat) (f : Nat → Int32) (hk : ws[q]? = some (k, .inr (hsCi, [.ref a]))) (ha : ws[qa]? = some (a, .inl (cI, 144, .inl f))) (q2 q2a k2 a2 : Nat) (f2 : Nat → Int32) (hk2 : ws[q2]? = some (k2, .inr (hsCi, [.ref a2]))) (ha2 : ws[q2a]? = some (a2, .inl (cI, 144, .inl f2))) : hsI l yX1_hasCellsOf wsX1_hasCellsOf rX1_hasCellsOf D vwCl (hsT cI cC) [.ref k, .ref k2] ws (fun r w => r = hx_b (hx_eq f f2 144) ∧ w = ws) := by
  refine hsI.enter (cc := cX1_hasCellsOf) (maxL := 3) (ret := (some .boolean)) (by decide) rfl (Nat.le_of_ble_eq_true rfl) ?_
  intro Pg En Ss Mi Ar Be Me Co AA QQ hQ h hr hlk
  refine hs_lv (lv' := [(0, .ref k), (1, .ref k2)]) rfl ?_
  refine hv_iconst h (nI 0) dX1_hasCellsOf_0 (by decide) ?_
  refine hv_istore_n h [(2, .int (nI 0)), (0, .ref k), (1, .ref k2)] dX1_hasCellsOf_1 rfl (by decide) rfl ?_
  have L2 : ∀ d2 i2 : Nat, i2 + d2 = 144 → (∀ i, i < i2 → f i = f2 i) → hsV Pg l En rX1_hasCellsOf Ss Mi Ar Be Me Co QQ 3 D vwCl AA Ss.heap 0 0 2 [(2, .int (nI i2)), (0, .ref k), (1, .ref k2)] ws [] := by
    intro d2
    induction d2 with
    | zero =>
      intro i2 kq2 g
      obtain rfl : i2 = 144 := by omega
      refine hv_iload_n h dX1_hasCellsOf_2 0 rfl rfl ?_
      refine hv_sipush h (nI 144) dX1_hasCellsOf_3 (by decide) ?_
      refine hv_icmp_ge h 32 dX1_hasCellsOf_6 rfl (fun c6 => ?_) (fun hc => absurd (Int32.le_refl _) hc)
      refine hv_iconst h (1) dX1_hasCellsOf_32 (by decide) ?_
      exact hv_zret h hr hlk hQ dX1_hasCellsOf_33 rfl ⟨(by rw [hx_eq_t g]; rfl), rfl⟩
    | succ d2 ih2 =>
      intro i2 kq2 g
      have hlt2 : i2 < 144 := by omega
      refine hv_iload_n h dX1_hasCellsOf_2 0 rfl rfl ?_
      refine hv_sipush h (nI 144) dX1_hasCellsOf_3 (by decide) ?_
      refine hv_icmp_ge h 32 dX1_hasCellsOf_6 rfl (fun hc => absurd hc (nI_ge hlt2 (by decide))) (fun c6 => ?_)
      refine hv_aload_n h dX1_hasCellsOf_9 1 rfl rfl ?_
      refine hv_get (C := RX1) (T := TX1) (N := 1) h q hk rfl 0 (by decide) wu_X1 w_fieldLink_X1_9 (fun _ h9 => h9) rfl dX1_hasCellsOf_10 ?_
      refine hv_iload_n h dX1_hasCellsOf_13 0 rfl rfl ?_
      refine hv_iald (v := f i2) h qa 0 ha rfl (vp_in_nI (by omega) (by decide)) (by rw [nI_clamp (by omega)]) dX1_hasCellsOf_14 ?_
      refine hv_aload_n h dX1_hasCellsOf_15 2 rfl rfl ?_
      refine hv_get (C := RX1) (T := TX1) (N := 1) h q2 hk2 rfl 0 (by decide) wu_X1 w_fieldLink_X1_9 (fun _ h9 => h9) rfl dX1_hasCellsOf_16 ?_
      refine hv_iload_n h dX1_hasCellsOf_19 0 rfl rfl ?_
      refine hv_iald (v := f2 i2) h q2a 0 ha2 rfl (vp_in_nI (by omega) (by decide)) (by rw [nI_clamp (by omega)]) dX1_hasCellsOf_20 ?_
      refine hv_icmp_eq h 26 dX1_hasCellsOf_21 rfl (fun c21 => ?_) (fun c21 => ?_)
      · refine hv_iinc h (nI (i2 + 1)) [(2, .int (nI (i2 + 1))), (0, .ref k), (1, .ref k2)] dX1_hasCellsOf_26 0 rfl (hs_inc _) (by decide) rfl ?_
        refine hv_goto h 2 dX1_hasCellsOf_29 rfl ?_
        exact ih2 (i2 + 1) (by omega) (lt_s g c21)
      · refine hv_iconst h (0) dX1_hasCellsOf_24 (by decide) ?_
        exact hv_zret h hr hlk hQ dX1_hasCellsOf_25 rfl ⟨(by rw [hx_eq_f hlt2 c21]; rfl), rfl⟩
  exact L2 144 0 (by omega) lt_0
abbrev rX1_turnedColumn : Room := { frames := 3, cells := 0, slots := 0, locals := 68 }
set_option maxHeartbeats 4000000 in
set_option maxRecDepth 100000 in
theorem k_X1_turnedColumn (l : Launch) (D : va_G) (cI cC : ClassId) (ws : va_W) (q qa k a : Nat) (f : Nat → Int32) (hk : ws[q]? = some (k, .inr (hsCi, [.ref a]))) (ha : ws[qa]? = some (a, .inl (cI, 144, .inl f))) (ax : Int32) (x0 : Int32) (y0 : Int32) : hsI l yX1_turnedColumn wsX1_turnedColumn rX1_turnedColumn D vwCl (hsT cI cC) [.ref k, .int ax, .int x0, .int y0] ws (fun r w => r = hx_tc f ax x0 y0 ∧ w = ws) := by
  refine hsI.enter (cc := cX1_turnedColumn) (maxL := 4) (ret := (some .int)) (by decide) rfl (Nat.le_of_ble_eq_true rfl) ?_
  intro Pg En Ss Mi Ar Be Me Co AA QQ hQ h hr hlk
  refine hs_lv (lv' := [(0, .ref k), (1, .int ax), (2, .int x0), (3, .int y0)]) rfl ?_
  refine hv_iload_n h dX1_turnedColumn_0 1 rfl rfl ?_
  refine hv_if_ne h 15 dX1_turnedColumn_1 rfl (fun c1 => ?_) (fun c1 => ?_)
  · refine hv_iload_n h dX1_turnedColumn_15 1 rfl rfl ?_
    refine hv_iconst h (1) dX1_turnedColumn_16 (by decide) ?_
    refine hv_icmp_ne h 31 dX1_turnedColumn_17 rfl (fun c17 => ?_) (fun c17 => ?_)
    · refine hv_aload_n h dX1_turnedColumn_31 0 rfl rfl ?_
      refine hv_iload_n h dX1_turnedColumn_32 3 rfl rfl ?_
      refine hv_bipush h (11) dX1_turnedColumn_33 (by decide) ?_
      refine hv_iload_n h dX1_turnedColumn_35 2 rfl rfl ?_
      refine hv_isub h dX1_turnedColumn_36 ?_
      refine hv_callp (ws' := ws) (v := hx_col f y0 (11 - x0)) h (hr_Vi (n := 2) (rest := []) h q hk rfl (k_X1_column l D cI cC ws q qa k a f hk ha y0 (11 - x0)) w_methodLink_X1_19 w_instanceMethod_X1_column w_selects_X1_column w_initialized_X1 w_code_X1_column (by decide +kernel) rfl rfl rfl ⟨by decide, by decide⟩ rfl (Nat.le_of_ble_eq_true rfl) ⟨Nat.zero_le _, Nat.zero_le _⟩ dX1_turnedColumn_37) ?_
      exact hv_iret h hr hlk hQ dX1_turnedColumn_40 ⟨(by first | with_reducible rfl | simp [hx_b, hx_tc, c1, c17]), rfl⟩
    · refine hv_aload_n h dX1_turnedColumn_20 0 rfl rfl ?_
      refine hv_iconst h (0) dX1_turnedColumn_21 (by decide) ?_
      refine hv_iload_n h dX1_turnedColumn_22 3 rfl rfl ?_
      refine hv_iload_n h dX1_turnedColumn_23 2 rfl rfl ?_
      refine hv_callp (ws' := ws) (v := hx_al f 0 y0 x0) h (hr_Vi (n := 3) (rest := []) h q hk rfl (k_X1_columnAlong l D cI cC ws q qa k a f hk ha 0 y0 x0) w_methodLink_X1_23 w_instanceMethod_X1_columnAlong w_selects_X1_columnAlong w_initialized_X1 w_code_X1_columnAlong (by decide +kernel) rfl rfl rfl ⟨by decide, by decide⟩ rfl (Nat.le_of_ble_eq_true rfl) ⟨Nat.zero_le _, Nat.zero_le _⟩ dX1_turnedColumn_24) ?_
      refine hv_callp (ws' := ws) (v := hx_rev (hx_al f 0 y0 x0)) h (hr_Si (n := 1) (rest := []) h (k_X1_reversed l D cI cC ws (hx_al f 0 y0 x0)) w_methodLink_X1_59 w_static_X1_reversed w_initialized_X1 w_code_X1_reversed (by decide +kernel) rfl rfl rfl ⟨by decide, by decide⟩ rfl (Nat.le_of_ble_eq_true rfl) ⟨Nat.zero_le _, Nat.zero_le _⟩ dX1_turnedColumn_27) ?_
      exact hv_iret h hr hlk hQ dX1_turnedColumn_30 ⟨(by first | with_reducible rfl | simp [hx_b, hx_tc, c1, c17]), rfl⟩
  · refine hv_aload_n h dX1_turnedColumn_4 0 rfl rfl ?_
    refine hv_iconst h (1) dX1_turnedColumn_5 (by decide) ?_
    refine hv_iload_n h dX1_turnedColumn_6 2 rfl rfl ?_
    refine hv_bipush h (11) dX1_turnedColumn_7 (by decide) ?_
    refine hv_iload_n h dX1_turnedColumn_9 3 rfl rfl ?_
    refine hv_isub h dX1_turnedColumn_10 ?_
    refine hv_callp (ws' := ws) (v := hx_al f 1 x0 (11 - y0)) h (hr_Vi (n := 3) (rest := []) h q hk rfl (k_X1_columnAlong l D cI cC ws q qa k a f hk ha 1 x0 (11 - y0)) w_methodLink_X1_23 w_instanceMethod_X1_columnAlong w_selects_X1_columnAlong w_initialized_X1 w_code_X1_columnAlong (by decide +kernel) rfl rfl rfl ⟨by decide, by decide⟩ rfl (Nat.le_of_ble_eq_true rfl) ⟨Nat.zero_le _, Nat.zero_le _⟩ dX1_turnedColumn_11) ?_
    exact hv_iret h hr hlk hQ dX1_turnedColumn_14 ⟨(by first | with_reducible rfl | simp [hx_b, hx_tc, c1]), rfl⟩
abbrev rX1_mirroredColumn : Room := { frames := 3, cells := 0, slots := 0, locals := 60 }
set_option maxHeartbeats 4000000 in
set_option maxRecDepth 100000 in
theorem k_X1_mirroredColumn (l : Launch) (D : va_G) (cI cC : ClassId) (ws : va_W) (q qa k a : Nat) (f : Nat → Int32) (hk : ws[q]? = some (k, .inr (hsCi, [.ref a]))) (ha : ws[qa]? = some (a, .inl (cI, 144, .inl f))) (ax : Int32) (x0 : Int32) (y0 : Int32) : hsI l yX1_mirroredColumn wsX1_mirroredColumn rX1_mirroredColumn D vwCl (hsT cI cC) [.ref k, .int ax, .int x0, .int y0] ws (fun r w => r = hx_mc f ax x0 y0 ∧ w = ws) := by
  refine hsI.enter (cc := cX1_mirroredColumn) (maxL := 4) (ret := (some .int)) (by decide) rfl (Nat.le_of_ble_eq_true rfl) ?_
  intro Pg En Ss Mi Ar Be Me Co AA QQ hQ h hr hlk
  refine hs_lv (lv' := [(0, .ref k), (1, .int ax), (2, .int x0), (3, .int y0)]) rfl ?_
  refine hv_iload_n h dX1_mirroredColumn_0 1 rfl rfl ?_
  refine hv_if_ne h 14 dX1_mirroredColumn_1 rfl (fun c1 => ?_) (fun c1 => ?_)
  · refine hv_iload_n h dX1_mirroredColumn_14 1 rfl rfl ?_
    refine hv_iconst h (1) dX1_mirroredColumn_15 (by decide) ?_
    refine hv_icmp_ne h 29 dX1_mirroredColumn_16 rfl (fun c16 => ?_) (fun c16 => ?_)
    · refine hv_aload_n h dX1_mirroredColumn_29 0 rfl rfl ?_
      refine hv_iload_n h dX1_mirroredColumn_30 2 rfl rfl ?_
      refine hv_iload_n h dX1_mirroredColumn_31 3 rfl rfl ?_
      refine hv_callp (ws' := ws) (v := hx_col f x0 y0) h (hr_Vi (n := 2) (rest := []) h q hk rfl (k_X1_column l D cI cC ws q qa k a f hk ha x0 y0) w_methodLink_X1_19 w_instanceMethod_X1_column w_selects_X1_column w_initialized_X1 w_code_X1_column (by decide +kernel) rfl rfl rfl ⟨by decide, by decide⟩ rfl (Nat.le_of_ble_eq_true rfl) ⟨Nat.zero_le _, Nat.zero_le _⟩ dX1_mirroredColumn_32) ?_
      refine hv_callp (ws' := ws) (v := hx_rev (hx_col f x0 y0)) h (hr_Si (n := 1) (rest := []) h (k_X1_reversed l D cI cC ws (hx_col f x0 y0)) w_methodLink_X1_59 w_static_X1_reversed w_initialized_X1 w_code_X1_reversed (by decide +kernel) rfl rfl rfl ⟨by decide, by decide⟩ rfl (Nat.le_of_ble_eq_true rfl) ⟨Nat.zero_le _, Nat.zero_le _⟩ dX1_mirroredColumn_35) ?_
      exact hv_iret h hr hlk hQ dX1_mirroredColumn_38 ⟨(by first | with_reducible rfl | simp [hx_b, hx_mc, c1, c16]), rfl⟩
    · refine hv_aload_n h dX1_mirroredColumn_19 0 rfl rfl ?_
      refine hv_iload_n h dX1_mirroredColumn_20 2 rfl rfl ?_
      refine hv_bipush h (11) dX1_mirroredColumn_21 (by decide) ?_
      refine hv_iload_n h dX1_mirroredColumn_23 3 rfl rfl ?_
      refine hv_isub h dX1_mirroredColumn_24 ?_
      refine hv_callp (ws' := ws) (v := hx_col f x0 (11 - y0)) h (hr_Vi (n := 2) (rest := []) h q hk rfl (k_X1_column l D cI cC ws q qa k a f hk ha x0 (11 - y0)) w_methodLink_X1_19 w_instanceMethod_X1_column w_selects_X1_column w_initialized_X1 w_code_X1_column (by decide +kernel) rfl rfl rfl ⟨by decide, by decide⟩ rfl (Nat.le_of_ble_eq_true rfl) ⟨Nat.zero_le _, Nat.zero_le _⟩ dX1_mirroredColumn_25) ?_
      exact hv_iret h hr hlk hQ dX1_mirroredColumn_28 ⟨(by first | with_reducible rfl | simp [hx_b, hx_mc, c1, c16]), rfl⟩
  · refine hv_aload_n h dX1_mirroredColumn_4 0 rfl rfl ?_
    refine hv_bipush h (11) dX1_mirroredColumn_5 (by decide) ?_
    refine hv_iload_n h dX1_mirroredColumn_7 2 rfl rfl ?_
    refine hv_isub h dX1_mirroredColumn_8 ?_
    refine hv_iload_n h dX1_mirroredColumn_9 3 rfl rfl ?_
    refine hv_callp (ws' := ws) (v := hx_col f (11 - x0) y0) h (hr_Vi (n := 2) (rest := []) h q hk rfl (k_X1_column l D cI cC ws q qa k a f hk ha (11 - x0) y0) w_methodLink_X1_19 w_instanceMethod_X1_column w_selects_X1_column w_initialized_X1 w_code_X1_column (by decide +kernel) rfl rfl rfl ⟨by decide, by decide⟩ rfl (Nat.le_of_ble_eq_true rfl) ⟨Nat.zero_le _, Nat.zero_le _⟩ dX1_mirroredColumn_10) ?_
    exact hv_iret h hr hlk hQ dX1_mirroredColumn_13 ⟨(by first | with_reducible rfl | simp [hx_b, hx_mc, c1]), rfl⟩
abbrev rX0_wouldLeave : Room := { frames := 5, cells := 0, slots := 0, locals := 114 }
set_option maxHeartbeats 4000000 in
set_option maxRecDepth 100000 in
theorem k_X0_wouldLeave (l : Launch) (D : va_G) (cI cC : ClassId) (ws : va_W) (q qa k a : Nat) (f : Nat → Int32) (hk : ws[q]? = some (k, .inr (hsCi, [.ref a]))) (ha : ws[qa]? = some (a, .inl (cI, 144, .inl f))) (ax : Int32) (d0 : Int32) : hsI l yX0_wouldLeave wsX0_wouldLeave rX0_wouldLeave D vwCl (hsT cI cC) [.ref k, .int ax, .int d0] ws (fun r w => r = hx_b (hx_wl f ax d0) ∧ w = ws) := by
  refine hsI.enter (cc := cX0_wouldLeave) (maxL := 4) (ret := (some .boolean)) (by decide) rfl (Nat.le_of_ble_eq_true rfl) ?_
  intro Pg En Ss Mi Ar Be Me Co AA QQ hQ h hr hlk
  refine hs_lv (lv' := [(0, .ref k), (1, .int ax), (2, .int d0)]) rfl ?_
  refine hv_aload_n h dX0_wouldLeave_0 0 rfl rfl ?_
  refine hv_iload_n h dX0_wouldLeave_1 1 rfl rfl ?_
  refine hv_callp (ws' := ws) (v := hx_least f ax) h (hr_Vi (n := 1) (rest := []) h q hk rfl (k_X1_leastAlong l D cI cC ws q qa k a f hk ha ax) w_methodLink_X0_110 w_instanceMethod_X1_leastAlong w_selects_X1_leastAlong w_initialized_X1 w_code_X1_leastAlong (by decide +kernel) rfl rfl rfl ⟨by decide, by decide⟩ rfl (Nat.le_of_ble_eq_true rfl) ⟨Nat.zero_le _, Nat.zero_le _⟩ dX0_wouldLeave_2) ?_
  refine hv_istore_n h [(3, .int (hx_least f ax)), (0, .ref k), (1, .int ax), (2, .int d0)] dX0_wouldLeave_5 rfl (by decide) rfl ?_
  refine hv_iload_n h dX0_wouldLeave_6 0 rfl rfl ?_
  refine hv_bipush h (12) dX0_wouldLeave_7 (by decide) ?_
  refine hv_icmp_ne h 14 dX0_wouldLeave_9 rfl (fun c9 => ?_) (fun c9 => ?_)
  · refine hv_iload_n h dX0_wouldLeave_14 3 rfl rfl ?_
    refine hv_iload_n h dX0_wouldLeave_15 0 rfl rfl ?_
    refine hv_ineg h dX0_wouldLeave_16 ?_
    refine hv_icmp_lt h 32 dX0_wouldLeave_17 rfl (fun c17 => ?_) (fun c17 => ?_)
    · refine hv_iconst h (1) dX0_wouldLeave_32 (by decide) ?_
      refine hv_goto h 37 dX0_wouldLeave_33 rfl ?_
      exact hv_zret h hr hlk hQ dX0_wouldLeave_37 rfl ⟨(by first | with_reducible rfl | simp [hx_b, hx_wl, c9, c17]), rfl⟩
    · refine hv_iload_n h dX0_wouldLeave_20 3 rfl rfl ?_
      refine hv_bipush h (11) dX0_wouldLeave_21 (by decide) ?_
      refine hv_aload_n h dX0_wouldLeave_23 1 rfl rfl ?_
      refine hv_iload_n h dX0_wouldLeave_24 2 rfl rfl ?_
      refine hv_callp (ws' := ws) (v := hx_great f ax) h (hr_Vi (n := 1) (rest := [.int 11, .int d0]) h q hk rfl (k_X1_greatestAlong l D cI cC ws q qa k a f hk ha ax) w_methodLink_X0_113 w_instanceMethod_X1_greatestAlong w_selects_X1_greatestAlong w_initialized_X1 w_code_X1_greatestAlong (by decide +kernel) rfl rfl rfl ⟨by decide, by decide⟩ rfl (Nat.le_of_ble_eq_true rfl) ⟨Nat.zero_le _, Nat.zero_le _⟩ dX0_wouldLeave_25) ?_
      refine hv_isub h dX0_wouldLeave_28 ?_
      refine hv_icmp_le h 36 dX0_wouldLeave_29 rfl (fun c29 => ?_) (fun c29 => ?_)
      · refine hv_iconst h (0) dX0_wouldLeave_36 (by decide) ?_
        exact hv_zret h hr hlk hQ dX0_wouldLeave_37 rfl ⟨(by first | with_reducible rfl | simp [hx_b, hx_wl, c9, c17, c29]), rfl⟩
      · refine hv_iconst h (1) dX0_wouldLeave_32 (by decide) ?_
        refine hv_goto h 37 dX0_wouldLeave_33 rfl ?_
        exact hv_zret h hr hlk hQ dX0_wouldLeave_37 rfl ⟨(by first | with_reducible rfl | simp [hx_b, hx_wl, c9, c17, c29]), rfl⟩
  · refine hv_iconst h (0) dX0_wouldLeave_12 (by decide) ?_
    exact hv_zret h hr hlk hQ dX0_wouldLeave_13 rfl ⟨(by first | with_reducible rfl | simp [hx_b, hx_wl, c9]), rfl⟩
end
section
abbrev rX1_countSides : Room := { frames := 2, cells := 0, slots := 0, locals := 42 }
set_option maxHeartbeats 4000000 in
set_option maxRecDepth 100000 in
theorem k_X1_countSides (l : Launch) (D : va_G) (cI cC : ClassId) (ws : va_W) (q qa k a : Nat) (f : Nat → Int32) (hk : ws[q]? = some (k, .inr (hsCi, [.ref a]))) (ha : ws[qa]? = some (a, .inl (cI, 144, .inl f)))  : hsI l yX1_countSides wsX1_countSides rX1_countSides D vwCl (hsT cI cC) [.ref k] ws (fun r w => r = hx_sides f ∧ w = ws) := by
  refine hsI.enter (cc := cX1_countSides) (maxL := 5) (ret := (some .int)) (by decide) rfl (Nat.le_of_ble_eq_true rfl) ?_
  intro Pg En Ss Mi Ar Be Me Co AA QQ hQ h hr hlk
  refine hs_lv (lv' := [(0, .ref k)]) rfl ?_
  refine hv_iconst h (0) dX1_countSides_0 (by decide) ?_
  refine hv_istore_n h [(1, .int 0), (0, .ref k)] dX1_countSides_1 rfl (by decide) rfl ?_
  refine hv_iconst h (nI 0) dX1_countSides_2 (by decide) ?_
  refine hv_istore_n h [(2, .int (nI 0)), (1, .int 0), (0, .ref k)] dX1_countSides_3 rfl (by decide) rfl ?_
  have L4 : ∀ d4 x : Nat, x + d4 = 13 → ∀ (b1 : Int32), b1 = hx_it (fun x n => hx_it (fun y n => hx_side1 f (nI x) (nI y) n) 13 n) x 0 → hsV Pg l En rX1_countSides Ss Mi Ar Be Me Co QQ 5 D vwCl AA Ss.heap 0 0 4 [(2, .int (nI x)), (1, .int b1), (0, .ref k)] ws [] := by
    intro d4
    induction d4 with
    | zero =>
      intro x kq4 b1 e_b1
      obtain rfl : x = 13 := by omega
      refine hv_iload_n h dX1_countSides_4 0 rfl rfl ?_
      refine hv_bipush h (nI 12) dX1_countSides_5 (by decide) ?_
      refine hv_icmp_gt h 85 dX1_countSides_7 rfl (fun c7 => ?_) (fun hc => absurd (nI_lt (by decide) (by decide)) hc)
      refine hv_iload_n h dX1_countSides_85 1 rfl rfl ?_
      exact hv_iret h hr hlk hQ dX1_countSides_86 ⟨(by rw [e_b1]; rfl), rfl⟩
    | succ d4 ih4 =>
      intro x kq4 b1 e_b1
      have hlt4 : x < 13 := by omega
      refine hv_iload_n h dX1_countSides_4 0 rfl rfl ?_
      refine hv_bipush h (nI 12) dX1_countSides_5 (by decide) ?_
      refine hv_icmp_gt h 85 dX1_countSides_7 rfl (fun hc => absurd hc (nI_nlt (Nat.le_of_lt_succ hlt4) (by decide))) (fun c7 => ?_)
      refine hv_iconst h (nI 0) dX1_countSides_10 (by decide) ?_
      refine hv_istore_n h [(3, .int (nI 0)), (2, .int (nI x)), (1, .int b1), (0, .ref k)] dX1_countSides_11 rfl (by decide) rfl ?_
      have L12 : ∀ d12 y : Nat, y + d12 = 13 → ∀ (b2 : Int32), b2 = hx_it (fun y n => hx_side1 f (nI x) (nI y) n) y b1 → hsV Pg l En rX1_countSides Ss Mi Ar Be Me Co QQ 5 D vwCl AA Ss.heap 0 0 12 [(3, .int (nI y)), (2, .int (nI x)), (1, .int b2), (0, .ref k)] ws [] := by
        intro d12
        induction d12 with
        | zero =>
          intro y kq12 b2 e_b2
          obtain rfl : y = 13 := by omega
          refine hv_iload_n h dX1_countSides_12 0 rfl rfl ?_
          refine hv_bipush h (nI 12) dX1_countSides_13 (by decide) ?_
          refine hv_icmp_gt h 79 dX1_countSides_15 rfl (fun c15 => ?_) (fun hc => absurd (nI_lt (by decide) (by decide)) hc)
          refine hv_iinc h (nI (x + 1)) [(2, .int (nI (x + 1))), (3, .int (nI 13)), (1, .int b2), (0, .ref k)] dX1_countSides_79 1 rfl (hs_inc _) (by decide) rfl ?_
          refine hv_goto h 4 dX1_countSides_82 rfl ?_
          refine hs_pick (lv' := [(2, .int (nI (x + 1))), (1, .int b2), (0, .ref k)]) [0, 2, 3] rfl ?_
          exact ih4 (x + 1) (by omega) _ (by rw [hx_it_s, ← e_b1]; try first | assumption | with_reducible rfl | (simp [c7, c15]; done))
        | succ d12 ih12 =>
          intro y kq12 b2 e_b2
          have hlt12 : y < 13 := by omega
          refine hv_iload_n h dX1_countSides_12 0 rfl rfl ?_
          refine hv_bipush h (nI 12) dX1_countSides_13 (by decide) ?_
          refine hv_icmp_gt h 79 dX1_countSides_15 rfl (fun hc => absurd hc (nI_nlt (Nat.le_of_lt_succ hlt12) (by decide))) (fun c15 => ?_)
          refine hv_aload_n h dX1_countSides_18 3 rfl rfl ?_
          refine hv_iload_n h dX1_countSides_19 1 rfl rfl ?_
          refine hv_iload_n h dX1_countSides_20 0 rfl rfl ?_
          refine hv_callp (ws' := ws) (v := hx_col f (nI x) (nI y)) h (hr_Vi (n := 2) (rest := []) h q hk rfl (k_X1_column l D cI cC ws q qa k a f hk ha (nI x) (nI y)) w_methodLink_X1_19 w_instanceMethod_X1_column w_selects_X1_column w_initialized_X1 w_code_X1_column (by decide +kernel) rfl rfl rfl ⟨by decide, by decide⟩ rfl (Nat.le_of_ble_eq_true rfl) ⟨Nat.zero_le _, Nat.zero_le _⟩ dX1_countSides_21) ?_
          refine hv_istore h [(4, .int (hx_col f (nI x) (nI y))), (3, .int (nI y)), (2, .int (nI x)), (1, .int b2), (0, .ref k)] dX1_countSides_24 (by decide) rfl ?_
          refine hv_iload_n h dX1_countSides_26 3 rfl rfl ?_
          refine hv_iload h dX1_countSides_27 0 rfl ?_
          refine hv_aload_n h dX1_countSides_29 4 rfl rfl ?_
          refine hv_iload_n h dX1_countSides_30 2 rfl rfl ?_
          refine hv_iconst h (1) dX1_countSides_31 (by decide) ?_
          refine hv_isub h dX1_countSides_32 ?_
          refine hv_iload_n h dX1_countSides_33 1 rfl rfl ?_
          refine hv_callp (ws' := ws) (v := hx_col f ((nI x) - 1) (nI y)) h (hr_Vi (n := 2) (rest := [.int (hx_col f (nI x) (nI y)), .int b2]) h q hk rfl (k_X1_column l D cI cC ws q qa k a f hk ha ((nI x) - 1) (nI y)) w_methodLink_X1_19 w_instanceMethod_X1_column w_selects_X1_column w_initialized_X1 w_code_X1_column (by decide +kernel) rfl rfl rfl ⟨by decide, by decide⟩ rfl (Nat.le_of_ble_eq_true rfl) ⟨Nat.zero_le _, Nat.zero_le _⟩ dX1_countSides_34) ?_
          refine hv_ixor h dX1_countSides_37 ?_
          refine hv_callp (ws' := ws) (v := hj_bc ((hx_col f (nI x) (nI y)) ^^^ (hx_col f ((nI x) - 1) (nI y)))) h (hr_Si (n := 1) (rest := [.int b2]) h (k_X5_bitCount l D cI cC ws ((hx_col f (nI x) (nI y)) ^^^ (hx_col f ((nI x) - 1) (nI y)))) w_methodLink_X1_40 w_static_X5_bitCount w_initialized_X5 w_code_X5_bitCount (by decide +kernel) rfl rfl rfl ⟨by decide, by decide⟩ rfl (Nat.le_of_ble_eq_true rfl) ⟨Nat.zero_le _, Nat.zero_le _⟩ dX1_countSides_38) ?_
          refine hv_iadd h dX1_countSides_41 ?_
          refine hv_istore_n h [(1, .int (b2 + (hj_bc ((hx_col f (nI x) (nI y)) ^^^ (hx_col f ((nI x) - 1) (nI y)))))), (4, .int (hx_col f (nI x) (nI y))), (3, .int (nI y)), (2, .int (nI x)), (0, .ref k)] dX1_countSides_42 rfl (by decide) rfl ?_
          refine hv_iload_n h dX1_countSides_43 0 rfl rfl ?_
          refine hv_iload h dX1_countSides_44 1 rfl ?_
          refine hv_aload_n h dX1_countSides_46 4 rfl rfl ?_
          refine hv_iload_n h dX1_countSides_47 3 rfl rfl ?_
          refine hv_iload_n h dX1_countSides_48 2 rfl rfl ?_
          refine hv_iconst h (1) dX1_countSides_49 (by decide) ?_
          refine hv_isub h dX1_countSides_50 ?_
          refine hv_callp (ws' := ws) (v := hx_col f (nI x) ((nI y) - 1)) h (hr_Vi (n := 2) (rest := [.int (hx_col f (nI x) (nI y)), .int (b2 + (hj_bc ((hx_col f (nI x) (nI y)) ^^^ (hx_col f ((nI x) - 1) (nI y)))))]) h q hk rfl (k_X1_column l D cI cC ws q qa k a f hk ha (nI x) ((nI y) - 1)) w_methodLink_X1_19 w_instanceMethod_X1_column w_selects_X1_column w_initialized_X1 w_code_X1_column (by decide +kernel) rfl rfl rfl ⟨by decide, by decide⟩ rfl (Nat.le_of_ble_eq_true rfl) ⟨Nat.zero_le _, Nat.zero_le _⟩ dX1_countSides_51) ?_
          refine hv_ixor h dX1_countSides_54 ?_
          refine hv_callp (ws' := ws) (v := hj_bc ((hx_col f (nI x) (nI y)) ^^^ (hx_col f (nI x) ((nI y) - 1)))) h (hr_Si (n := 1) (rest := [.int (b2 + (hj_bc ((hx_col f (nI x) (nI y)) ^^^ (hx_col f ((nI x) - 1) (nI y)))))]) h (k_X5_bitCount l D cI cC ws ((hx_col f (nI x) (nI y)) ^^^ (hx_col f (nI x) ((nI y) - 1)))) w_methodLink_X1_40 w_static_X5_bitCount w_initialized_X5 w_code_X5_bitCount (by decide +kernel) rfl rfl rfl ⟨by decide, by decide⟩ rfl (Nat.le_of_ble_eq_true rfl) ⟨Nat.zero_le _, Nat.zero_le _⟩ dX1_countSides_55) ?_
          refine hv_iadd h dX1_countSides_58 ?_
          refine hv_istore_n h [(1, .int ((b2 + (hj_bc ((hx_col f (nI x) (nI y)) ^^^ (hx_col f ((nI x) - 1) (nI y))))) + (hj_bc ((hx_col f (nI x) (nI y)) ^^^ (hx_col f (nI x) ((nI y) - 1)))))), (4, .int (hx_col f (nI x) (nI y))), (3, .int (nI y)), (2, .int (nI x)), (0, .ref k)] dX1_countSides_59 rfl (by decide) rfl ?_
          refine hv_iload_n h dX1_countSides_60 0 rfl rfl ?_
          refine hv_iload h dX1_countSides_61 1 rfl ?_
          refine hv_iload h dX1_countSides_63 1 rfl ?_
          refine hv_iconst h (1) dX1_countSides_65 (by decide) ?_
          refine hv_ishl h dX1_countSides_66 ?_
          refine hv_ixor h dX1_countSides_67 ?_
          refine hv_callp (ws' := ws) (v := hj_bc ((hx_col f (nI x) (nI y)) ^^^ ((hx_col f (nI x) (nI y)) <<< ((1 : Int32) &&& 31)))) h (hr_Si (n := 1) (rest := [.int ((b2 + (hj_bc ((hx_col f (nI x) (nI y)) ^^^ (hx_col f ((nI x) - 1) (nI y))))) + (hj_bc ((hx_col f (nI x) (nI y)) ^^^ (hx_col f (nI x) ((nI y) - 1)))))]) h (k_X5_bitCount l D cI cC ws ((hx_col f (nI x) (nI y)) ^^^ ((hx_col f (nI x) (nI y)) <<< ((1 : Int32) &&& 31)))) w_methodLink_X1_40 w_static_X5_bitCount w_initialized_X5 w_code_X5_bitCount (by decide +kernel) rfl rfl rfl ⟨by decide, by decide⟩ rfl (Nat.le_of_ble_eq_true rfl) ⟨Nat.zero_le _, Nat.zero_le _⟩ dX1_countSides_68) ?_
          refine hv_iadd h dX1_countSides_71 ?_
          refine hv_istore_n h [(1, .int (((b2 + (hj_bc ((hx_col f (nI x) (nI y)) ^^^ (hx_col f ((nI x) - 1) (nI y))))) + (hj_bc ((hx_col f (nI x) (nI y)) ^^^ (hx_col f (nI x) ((nI y) - 1))))) + (hj_bc ((hx_col f (nI x) (nI y)) ^^^ ((hx_col f (nI x) (nI y)) <<< ((1 : Int32) &&& 31)))))), (4, .int (hx_col f (nI x) (nI y))), (3, .int (nI y)), (2, .int (nI x)), (0, .ref k)] dX1_countSides_72 rfl (by decide) rfl ?_
          refine hv_iinc h (nI (y + 1)) [(3, .int (nI (y + 1))), (1, .int (((b2 + (hj_bc ((hx_col f (nI x) (nI y)) ^^^ (hx_col f ((nI x) - 1) (nI y))))) + (hj_bc ((hx_col f (nI x) (nI y)) ^^^ (hx_col f (nI x) ((nI y) - 1))))) + (hj_bc ((hx_col f (nI x) (nI y)) ^^^ ((hx_col f (nI x) (nI y)) <<< ((1 : Int32) &&& 31)))))), (4, .int (hx_col f (nI x) (nI y))), (2, .int (nI x)), (0, .ref k)] dX1_countSides_73 2 rfl (hs_inc _) (by decide) rfl ?_
          refine hv_goto h 12 dX1_countSides_76 rfl ?_
          refine hs_pick (lv' := [(3, .int (nI (y + 1))), (2, .int (nI x)), (1, .int (((b2 + (hj_bc ((hx_col f (nI x) (nI y)) ^^^ (hx_col f ((nI x) - 1) (nI y))))) + (hj_bc ((hx_col f (nI x) (nI y)) ^^^ (hx_col f (nI x) ((nI y) - 1))))) + (hj_bc ((hx_col f (nI x) (nI y)) ^^^ ((hx_col f (nI x) (nI y)) <<< ((1 : Int32) &&& 31)))))), (0, .ref k)]) [0, 3, 1, 4] rfl ?_
          exact ih12 (y + 1) (by omega) _ (by rw [hx_it_s, ← e_b2]; try first | assumption | with_reducible rfl | (simp [hx_side1, c7, c15]; done))
      exact L12 13 0 (by omega) _ rfl
  exact L4 13 0 (by omega) _ rfl
abbrev rX1_countEdges : Room := { frames := 2, cells := 0, slots := 0, locals := 44 }
set_option maxHeartbeats 4000000 in
set_option maxRecDepth 100000 in
theorem k_X1_countEdges (l : Launch) (D : va_G) (cI cC : ClassId) (ws : va_W) (q qa k a : Nat) (f : Nat → Int32) (hk : ws[q]? = some (k, .inr (hsCi, [.ref a]))) (ha : ws[qa]? = some (a, .inl (cI, 144, .inl f)))  : hsI l yX1_countEdges wsX1_countEdges rX1_countEdges D vwCl (hsT cI cC) [.ref k] ws (fun r w => r = hx_edges f ∧ w = ws) := by
  refine hsI.enter (cc := cX1_countEdges) (maxL := 8) (ret := (some .int)) (by decide) rfl (Nat.le_of_ble_eq_true rfl) ?_
  intro Pg En Ss Mi Ar Be Me Co AA QQ hQ h hr hlk
  refine hs_lv (lv' := [(0, .ref k)]) rfl ?_
  refine hv_iconst h (0) dX1_countEdges_0 (by decide) ?_
  refine hv_istore_n h [(1, .int 0), (0, .ref k)] dX1_countEdges_1 rfl (by decide) rfl ?_
  refine hv_iconst h (nI 0) dX1_countEdges_2 (by decide) ?_
  refine hv_istore_n h [(2, .int (nI 0)), (1, .int 0), (0, .ref k)] dX1_countEdges_3 rfl (by decide) rfl ?_
  have L4 : ∀ d4 x : Nat, x + d4 = 13 → ∀ (b1 : Int32), b1 = hx_it (fun x n => hx_it (fun y n => hx_edge1 f (nI x) (nI y) n) 13 n) x 0 → hsV Pg l En rX1_countEdges Ss Mi Ar Be Me Co QQ 8 D vwCl AA Ss.heap 0 0 4 [(2, .int (nI x)), (1, .int b1), (0, .ref k)] ws [] := by
    intro d4
    induction d4 with
    | zero =>
      intro x kq4 b1 e_b1
      obtain rfl : x = 13 := by omega
      refine hv_iload_n h dX1_countEdges_4 0 rfl rfl ?_
      refine hv_bipush h (nI 12) dX1_countEdges_5 (by decide) ?_
      refine hv_icmp_gt h 113 dX1_countEdges_7 rfl (fun c7 => ?_) (fun hc => absurd (nI_lt (by decide) (by decide)) hc)
      refine hv_iload_n h dX1_countEdges_113 1 rfl rfl ?_
      exact hv_iret h hr hlk hQ dX1_countEdges_114 ⟨(by rw [e_b1]; rfl), rfl⟩
    | succ d4 ih4 =>
      intro x kq4 b1 e_b1
      have hlt4 : x < 13 := by omega
      refine hv_iload_n h dX1_countEdges_4 0 rfl rfl ?_
      refine hv_bipush h (nI 12) dX1_countEdges_5 (by decide) ?_
      refine hv_icmp_gt h 113 dX1_countEdges_7 rfl (fun hc => absurd hc (nI_nlt (Nat.le_of_lt_succ hlt4) (by decide))) (fun c7 => ?_)
      refine hv_iconst h (nI 0) dX1_countEdges_10 (by decide) ?_
      refine hv_istore_n h [(3, .int (nI 0)), (2, .int (nI x)), (1, .int b1), (0, .ref k)] dX1_countEdges_11 rfl (by decide) rfl ?_
      have L12 : ∀ d12 y : Nat, y + d12 = 13 → ∀ (b2 : Int32), b2 = hx_it (fun y n => hx_edge1 f (nI x) (nI y) n) y b1 → hsV Pg l En rX1_countEdges Ss Mi Ar Be Me Co QQ 8 D vwCl AA Ss.heap 0 0 12 [(3, .int (nI y)), (2, .int (nI x)), (1, .int b2), (0, .ref k)] ws [] := by
        intro d12
        induction d12 with
        | zero =>
          intro y kq12 b2 e_b2
          obtain rfl : y = 13 := by omega
          refine hv_iload_n h dX1_countEdges_12 0 rfl rfl ?_
          refine hv_bipush h (nI 12) dX1_countEdges_13 (by decide) ?_
          refine hv_icmp_gt h 107 dX1_countEdges_15 rfl (fun c15 => ?_) (fun hc => absurd (nI_lt (by decide) (by decide)) hc)
          refine hv_iinc h (nI (x + 1)) [(2, .int (nI (x + 1))), (3, .int (nI 13)), (1, .int b2), (0, .ref k)] dX1_countEdges_107 1 rfl (hs_inc _) (by decide) rfl ?_
          refine hv_goto h 4 dX1_countEdges_110 rfl ?_
          refine hs_pick (lv' := [(2, .int (nI (x + 1))), (1, .int b2), (0, .ref k)]) [0, 2, 3] rfl ?_
          exact ih4 (x + 1) (by omega) _ (by rw [hx_it_s, ← e_b1]; try first | assumption | with_reducible rfl | (simp [c7, c15]; done))
        | succ d12 ih12 =>
          intro y kq12 b2 e_b2
          have hlt12 : y < 13 := by omega
          refine hv_iload_n h dX1_countEdges_12 0 rfl rfl ?_
          refine hv_bipush h (nI 12) dX1_countEdges_13 (by decide) ?_
          refine hv_icmp_gt h 107 dX1_countEdges_15 rfl (fun hc => absurd hc (nI_nlt (Nat.le_of_lt_succ hlt12) (by decide))) (fun c15 => ?_)
          refine hv_aload_n h dX1_countEdges_18 3 rfl rfl ?_
          refine hv_iload_n h dX1_countEdges_19 1 rfl rfl ?_
          refine hv_iload_n h dX1_countEdges_20 0 rfl rfl ?_
          refine hv_callp (ws' := ws) (v := hx_col f (nI x) (nI y)) h (hr_Vi (n := 2) (rest := []) h q hk rfl (k_X1_column l D cI cC ws q qa k a f hk ha (nI x) (nI y)) w_methodLink_X1_19 w_instanceMethod_X1_column w_selects_X1_column w_initialized_X1 w_code_X1_column (by decide +kernel) rfl rfl rfl ⟨by decide, by decide⟩ rfl (Nat.le_of_ble_eq_true rfl) ⟨Nat.zero_le _, Nat.zero_le _⟩ dX1_countEdges_21) ?_
          refine hv_istore h [(4, .int (hx_col f (nI x) (nI y))), (3, .int (nI y)), (2, .int (nI x)), (1, .int b2), (0, .ref k)] dX1_countEdges_24 (by decide) rfl ?_
          refine hv_aload_n h dX1_countEdges_26 4 rfl rfl ?_
          refine hv_iload_n h dX1_countEdges_27 2 rfl rfl ?_
          refine hv_iconst h (1) dX1_countEdges_28 (by decide) ?_
          refine hv_isub h dX1_countEdges_29 ?_
          refine hv_iload_n h dX1_countEdges_30 1 rfl rfl ?_
          refine hv_callp (ws' := ws) (v := hx_col f ((nI x) - 1) (nI y)) h (hr_Vi (n := 2) (rest := []) h q hk rfl (k_X1_column l D cI cC ws q qa k a f hk ha ((nI x) - 1) (nI y)) w_methodLink_X1_19 w_instanceMethod_X1_column w_selects_X1_column w_initialized_X1 w_code_X1_column (by decide +kernel) rfl rfl rfl ⟨by decide, by decide⟩ rfl (Nat.le_of_ble_eq_true rfl) ⟨Nat.zero_le _, Nat.zero_le _⟩ dX1_countEdges_31) ?_
          refine hv_istore h [(5, .int (hx_col f ((nI x) - 1) (nI y))), (4, .int (hx_col f (nI x) (nI y))), (3, .int (nI y)), (2, .int (nI x)), (1, .int b2), (0, .ref k)] dX1_countEdges_34 (by decide) rfl ?_
          refine hv_aload_n h dX1_countEdges_36 5 rfl rfl ?_
          refine hv_iload_n h dX1_countEdges_37 3 rfl rfl ?_
          refine hv_iload_n h dX1_countEdges_38 2 rfl rfl ?_
          refine hv_iconst h (1) dX1_countEdges_39 (by decide) ?_
          refine hv_isub h dX1_countEdges_40 ?_
          refine hv_callp (ws' := ws) (v := hx_col f (nI x) ((nI y) - 1)) h (hr_Vi (n := 2) (rest := []) h q hk rfl (k_X1_column l D cI cC ws q qa k a f hk ha (nI x) ((nI y) - 1)) w_methodLink_X1_19 w_instanceMethod_X1_column w_selects_X1_column w_initialized_X1 w_code_X1_column (by decide +kernel) rfl rfl rfl ⟨by decide, by decide⟩ rfl (Nat.le_of_ble_eq_true rfl) ⟨Nat.zero_le _, Nat.zero_le _⟩ dX1_countEdges_41) ?_
          refine hv_istore h [(6, .int (hx_col f (nI x) ((nI y) - 1))), (5, .int (hx_col f ((nI x) - 1) (nI y))), (4, .int (hx_col f (nI x) (nI y))), (3, .int (nI y)), (2, .int (nI x)), (1, .int b2), (0, .ref k)] dX1_countEdges_44 (by decide) rfl ?_
          refine hv_aload_n h dX1_countEdges_46 6 rfl rfl ?_
          refine hv_iload_n h dX1_countEdges_47 4 rfl rfl ?_
          refine hv_iconst h (1) dX1_countEdges_48 (by decide) ?_
          refine hv_isub h dX1_countEdges_49 ?_
          refine hv_iload_n h dX1_countEdges_50 3 rfl rfl ?_
          refine hv_iconst h (1) dX1_countEdges_51 (by decide) ?_
          refine hv_isub h dX1_countEdges_52 ?_
          refine hv_callp (ws' := ws) (v := hx_col f ((nI x) - 1) ((nI y) - 1)) h (hr_Vi (n := 2) (rest := []) h q hk rfl (k_X1_column l D cI cC ws q qa k a f hk ha ((nI x) - 1) ((nI y) - 1)) w_methodLink_X1_19 w_instanceMethod_X1_column w_selects_X1_column w_initialized_X1 w_code_X1_column (by decide +kernel) rfl rfl rfl ⟨by decide, by decide⟩ rfl (Nat.le_of_ble_eq_true rfl) ⟨Nat.zero_le _, Nat.zero_le _⟩ dX1_countEdges_53) ?_
          refine hv_istore h [(7, .int (hx_col f ((nI x) - 1) ((nI y) - 1))), (6, .int (hx_col f (nI x) ((nI y) - 1))), (5, .int (hx_col f ((nI x) - 1) (nI y))), (4, .int (hx_col f (nI x) (nI y))), (3, .int (nI y)), (2, .int (nI x)), (1, .int b2), (0, .ref k)] dX1_countEdges_56 (by decide) rfl ?_
          refine hv_iload_n h dX1_countEdges_58 6 rfl rfl ?_
          refine hv_iload h dX1_countEdges_59 2 rfl ?_
          refine hv_iload h dX1_countEdges_61 3 rfl ?_
          refine hv_callp (ws' := ws) (v := hx_eb (hx_col f ((nI x) - 1) (nI y)) (hx_col f (nI x) (nI y))) h (hr_SNi (n := 2) (rest := [.int b2]) h (k_X0_edgesBetween l D cI cC ws (hx_col f ((nI x) - 1) (nI y)) (hx_col f (nI x) (nI y))) (List.mem_of_getElem? (i := 1) rfl) w_static_X0_edgesBetween w_initialized_X0 w_code_X0_edgesBetween (by decide +kernel) rfl rfl rfl ⟨by decide, by decide⟩ rfl (Nat.le_of_ble_eq_true rfl) ⟨Nat.zero_le _, Nat.zero_le _⟩ dX1_countEdges_63) ?_
          refine hv_callp (ws' := ws) (v := hj_bc (hx_eb (hx_col f ((nI x) - 1) (nI y)) (hx_col f (nI x) (nI y)))) h (hr_Si (n := 1) (rest := [.int b2]) h (k_X5_bitCount l D cI cC ws (hx_eb (hx_col f ((nI x) - 1) (nI y)) (hx_col f (nI x) (nI y)))) w_methodLink_X1_40 w_static_X5_bitCount w_initialized_X5 w_code_X5_bitCount (by decide +kernel) rfl rfl rfl ⟨by decide, by decide⟩ rfl (Nat.le_of_ble_eq_true rfl) ⟨Nat.zero_le _, Nat.zero_le _⟩ dX1_countEdges_66) ?_
          refine hv_iadd h dX1_countEdges_69 ?_
          refine hv_istore_n h [(1, .int (b2 + (hj_bc (hx_eb (hx_col f ((nI x) - 1) (nI y)) (hx_col f (nI x) (nI y)))))), (7, .int (hx_col f ((nI x) - 1) ((nI y) - 1))), (6, .int (hx_col f (nI x) ((nI y) - 1))), (5, .int (hx_col f ((nI x) - 1) (nI y))), (4, .int (hx_col f (nI x) (nI y))), (3, .int (nI y)), (2, .int (nI x)), (0, .ref k)] dX1_countEdges_70 rfl (by decide) rfl ?_
          refine hv_iload_n h dX1_countEdges_71 0 rfl rfl ?_
          refine hv_iload h dX1_countEdges_72 2 rfl ?_
          refine hv_iload h dX1_countEdges_74 4 rfl ?_
          refine hv_callp (ws' := ws) (v := hx_eb (hx_col f (nI x) ((nI y) - 1)) (hx_col f (nI x) (nI y))) h (hr_SNi (n := 2) (rest := [.int (b2 + (hj_bc (hx_eb (hx_col f ((nI x) - 1) (nI y)) (hx_col f (nI x) (nI y)))))]) h (k_X0_edgesBetween l D cI cC ws (hx_col f (nI x) ((nI y) - 1)) (hx_col f (nI x) (nI y))) (List.mem_of_getElem? (i := 1) rfl) w_static_X0_edgesBetween w_initialized_X0 w_code_X0_edgesBetween (by decide +kernel) rfl rfl rfl ⟨by decide, by decide⟩ rfl (Nat.le_of_ble_eq_true rfl) ⟨Nat.zero_le _, Nat.zero_le _⟩ dX1_countEdges_76) ?_
          refine hv_callp (ws' := ws) (v := hj_bc (hx_eb (hx_col f (nI x) ((nI y) - 1)) (hx_col f (nI x) (nI y)))) h (hr_Si (n := 1) (rest := [.int (b2 + (hj_bc (hx_eb (hx_col f ((nI x) - 1) (nI y)) (hx_col f (nI x) (nI y)))))]) h (k_X5_bitCount l D cI cC ws (hx_eb (hx_col f (nI x) ((nI y) - 1)) (hx_col f (nI x) (nI y)))) w_methodLink_X1_40 w_static_X5_bitCount w_initialized_X5 w_code_X5_bitCount (by decide +kernel) rfl rfl rfl ⟨by decide, by decide⟩ rfl (Nat.le_of_ble_eq_true rfl) ⟨Nat.zero_le _, Nat.zero_le _⟩ dX1_countEdges_79) ?_
          refine hv_iadd h dX1_countEdges_82 ?_
          refine hv_istore_n h [(1, .int ((b2 + (hj_bc (hx_eb (hx_col f ((nI x) - 1) (nI y)) (hx_col f (nI x) (nI y))))) + (hj_bc (hx_eb (hx_col f (nI x) ((nI y) - 1)) (hx_col f (nI x) (nI y)))))), (7, .int (hx_col f ((nI x) - 1) ((nI y) - 1))), (6, .int (hx_col f (nI x) ((nI y) - 1))), (5, .int (hx_col f ((nI x) - 1) (nI y))), (4, .int (hx_col f (nI x) (nI y))), (3, .int (nI y)), (2, .int (nI x)), (0, .ref k)] dX1_countEdges_83 rfl (by decide) rfl ?_
          refine hv_iload_n h dX1_countEdges_84 0 rfl rfl ?_
          refine hv_iload h dX1_countEdges_85 1 rfl ?_
          refine hv_iload h dX1_countEdges_87 2 rfl ?_
          refine hv_iload h dX1_countEdges_89 3 rfl ?_
          refine hv_iload h dX1_countEdges_91 4 rfl ?_
          refine hv_callp (ws' := ws) (v := hx_ea (hx_col f ((nI x) - 1) ((nI y) - 1)) (hx_col f (nI x) ((nI y) - 1)) (hx_col f ((nI x) - 1) (nI y)) (hx_col f (nI x) (nI y))) h (hr_SNi (n := 4) (rest := [.int ((b2 + (hj_bc (hx_eb (hx_col f ((nI x) - 1) (nI y)) (hx_col f (nI x) (nI y))))) + (hj_bc (hx_eb (hx_col f (nI x) ((nI y) - 1)) (hx_col f (nI x) (nI y)))))]) h (k_X0_edgesAmong l D cI cC ws (hx_col f ((nI x) - 1) ((nI y) - 1)) (hx_col f (nI x) ((nI y) - 1)) (hx_col f ((nI x) - 1) (nI y)) (hx_col f (nI x) (nI y))) (List.mem_of_getElem? (i := 2) rfl) w_static_X0_edgesAmong w_initialized_X0 w_code_X0_edgesAmong (by decide +kernel) rfl rfl rfl ⟨by decide, by decide⟩ rfl (Nat.le_of_ble_eq_true rfl) ⟨Nat.zero_le _, Nat.zero_le _⟩ dX1_countEdges_93) ?_
          refine hv_callp (ws' := ws) (v := hj_bc (hx_ea (hx_col f ((nI x) - 1) ((nI y) - 1)) (hx_col f (nI x) ((nI y) - 1)) (hx_col f ((nI x) - 1) (nI y)) (hx_col f (nI x) (nI y)))) h (hr_Si (n := 1) (rest := [.int ((b2 + (hj_bc (hx_eb (hx_col f ((nI x) - 1) (nI y)) (hx_col f (nI x) (nI y))))) + (hj_bc (hx_eb (hx_col f (nI x) ((nI y) - 1)) (hx_col f (nI x) (nI y)))))]) h (k_X5_bitCount l D cI cC ws (hx_ea (hx_col f ((nI x) - 1) ((nI y) - 1)) (hx_col f (nI x) ((nI y) - 1)) (hx_col f ((nI x) - 1) (nI y)) (hx_col f (nI x) (nI y)))) w_methodLink_X1_40 w_static_X5_bitCount w_initialized_X5 w_code_X5_bitCount (by decide +kernel) rfl rfl rfl ⟨by decide, by decide⟩ rfl (Nat.le_of_ble_eq_true rfl) ⟨Nat.zero_le _, Nat.zero_le _⟩ dX1_countEdges_96) ?_
          refine hv_iadd h dX1_countEdges_99 ?_
          refine hv_istore_n h [(1, .int (((b2 + (hj_bc (hx_eb (hx_col f ((nI x) - 1) (nI y)) (hx_col f (nI x) (nI y))))) + (hj_bc (hx_eb (hx_col f (nI x) ((nI y) - 1)) (hx_col f (nI x) (nI y))))) + (hj_bc (hx_ea (hx_col f ((nI x) - 1) ((nI y) - 1)) (hx_col f (nI x) ((nI y) - 1)) (hx_col f ((nI x) - 1) (nI y)) (hx_col f (nI x) (nI y)))))), (7, .int (hx_col f ((nI x) - 1) ((nI y) - 1))), (6, .int (hx_col f (nI x) ((nI y) - 1))), (5, .int (hx_col f ((nI x) - 1) (nI y))), (4, .int (hx_col f (nI x) (nI y))), (3, .int (nI y)), (2, .int (nI x)), (0, .ref k)] dX1_countEdges_100 rfl (by decide) rfl ?_
          refine hv_iinc h (nI (y + 1)) [(3, .int (nI (y + 1))), (1, .int (((b2 + (hj_bc (hx_eb (hx_col f ((nI x) - 1) (nI y)) (hx_col f (nI x) (nI y))))) + (hj_bc (hx_eb (hx_col f (nI x) ((nI y) - 1)) (hx_col f (nI x) (nI y))))) + (hj_bc (hx_ea (hx_col f ((nI x) - 1) ((nI y) - 1)) (hx_col f (nI x) ((nI y) - 1)) (hx_col f ((nI x) - 1) (nI y)) (hx_col f (nI x) (nI y)))))), (7, .int (hx_col f ((nI x) - 1) ((nI y) - 1))), (6, .int (hx_col f (nI x) ((nI y) - 1))), (5, .int (hx_col f ((nI x) - 1) (nI y))), (4, .int (hx_col f (nI x) (nI y))), (2, .int (nI x)), (0, .ref k)] dX1_countEdges_101 5 rfl (hs_inc _) (by decide) rfl ?_
          refine hv_goto h 12 dX1_countEdges_104 rfl ?_
          refine hs_pick (lv' := [(3, .int (nI (y + 1))), (2, .int (nI x)), (1, .int (((b2 + (hj_bc (hx_eb (hx_col f ((nI x) - 1) (nI y)) (hx_col f (nI x) (nI y))))) + (hj_bc (hx_eb (hx_col f (nI x) ((nI y) - 1)) (hx_col f (nI x) (nI y))))) + (hj_bc (hx_ea (hx_col f ((nI x) - 1) ((nI y) - 1)) (hx_col f (nI x) ((nI y) - 1)) (hx_col f ((nI x) - 1) (nI y)) (hx_col f (nI x) (nI y)))))), (0, .ref k)]) [0, 6, 1, 7] rfl ?_
          exact ih12 (y + 1) (by omega) _ (by rw [hx_it_s, ← e_b2]; try first | assumption | with_reducible rfl | (simp [hx_edge1, c7, c15]; done))
      exact L12 13 0 (by omega) _ rfl
  exact L4 13 0 (by omega) _ rfl
end
section
abbrev rX1_becomeView : Room := { frames := 3, cells := 0, slots := 0, locals := 68 }
set_option maxHeartbeats 1000000 in
set_option maxRecDepth 100000 in
theorem k_X1_becomeView (l : Launch) (D : va_G) (cI cC : ClassId) (ws : va_W) (q qa k a : Nat) (f : Nat → Int32) (hk : ws[q]? = some (k, .inr (hsCi, [.ref a]))) (ha : ws[qa]? = some (a, .inl (cI, 144, .inl f))) (n0 : qa ≠ q) (q2 q2a k2 a2 : Nat) (f2 : Nat → Int32) (hk2 : ws[q2]? = some (k2, .inr (hsCi, [.ref a2]))) (ha2 : ws[q2a]? = some (a2, .inl (cI, 144, .inl f2))) (n2 : qa ≠ q2) (n2a : qa ≠ q2a) (ax : Int32) : hsN l yX1_becomeView wsX1_becomeView rX1_becomeView D vwCl (hsT cI cC) [.ref k, .ref k2, .int ax] ws (fun w => w = (ws.set qa (a, .inl (cI, 144, .inl (hx_fill (hx_vw f2 ax) f))))) := by
  refine hsN.enter (cc := cX1_becomeView) (maxL := 5) (ret := none) (by decide) rfl (Nat.le_of_ble_eq_true rfl) ?_
  intro Pg En Ss Mi Ar Be Me Co AA QQ hQ h hr hlk
  refine hs_lv (lv' := [(0, .ref k), (1, .ref k2), (2, .int ax)]) rfl ?_
  refine hv_iconst h (nI 0) dX1_becomeView_0 (by decide) ?_
  refine hv_istore_n h [(3, .int (nI 0)), (0, .ref k), (1, .ref k2), (2, .int ax)] dX1_becomeView_1 rfl (by decide) rfl ?_
  refine hs_ws (hs_self ha).symm ?_
  have L2 : ∀ d2 x : Nat, x + d2 = 12 → ∀ (F1 : Nat → Int32), F1 = hx_it (fun x F => hx_it (fun y F => upd F (x * 12 + y) ((hx_vw f2 ax) x y)) 12 F) x f → hsV Pg l En rX1_becomeView Ss Mi Ar Be Me Co QQ 5 D vwCl AA Ss.heap 0 0 2 [(3, .int (nI x)), (0, .ref k), (1, .ref k2), (2, .int ax)] (ws.set qa (a, .inl (cI, 144, .inl F1))) [] := by
    intro d2
    induction d2 with
    | zero =>
      intro x kq2 F1 e_F1
      obtain rfl : x = 12 := by omega
      refine hv_iload_n h dX1_becomeView_2 0 rfl rfl ?_
      refine hv_bipush h (nI 12) dX1_becomeView_3 (by decide) ?_
      refine hv_icmp_ge h 50 dX1_becomeView_5 rfl (fun c5 => ?_) (fun hc => absurd (Int32.le_refl _) hc)
      exact hv_vret h hr hlk hQ dX1_becomeView_50 (by rw [e_F1]; rfl)
    | succ d2 ih2 =>
      intro x kq2 F1 e_F1
      have hlt2 : x < 12 := by omega
      refine hv_iload_n h dX1_becomeView_2 0 rfl rfl ?_
      refine hv_bipush h (nI 12) dX1_becomeView_3 (by decide) ?_
      refine hv_icmp_ge h 50 dX1_becomeView_5 rfl (fun hc => absurd hc (nI_ge hlt2 (by decide))) (fun c5 => ?_)
      refine hv_iconst h (nI 0) dX1_becomeView_8 (by decide) ?_
      refine hv_istore h [(4, .int (nI 0)), (3, .int (nI x)), (0, .ref k), (1, .ref k2), (2, .int ax)] dX1_becomeView_9 (by decide) rfl ?_
      have L11 : ∀ d11 y : Nat, y + d11 = 12 → ∀ (F2 : Nat → Int32), F2 = hx_it (fun y F => upd F (x * 12 + y) ((hx_vw f2 ax) x y)) y F1 → hsV Pg l En rX1_becomeView Ss Mi Ar Be Me Co QQ 5 D vwCl AA Ss.heap 0 0 11 [(4, .int (nI y)), (3, .int (nI x)), (0, .ref k), (1, .ref k2), (2, .int ax)] (ws.set qa (a, .inl (cI, 144, .inl F2))) [] := by
        intro d11
        induction d11 with
        | zero =>
          intro y kq11 F2 e_F2
          obtain rfl : y = 12 := by omega
          refine hv_iload h dX1_becomeView_11 0 rfl ?_
          refine hv_bipush h (nI 12) dX1_becomeView_13 (by decide) ?_
          refine hv_icmp_ge h 44 dX1_becomeView_15 rfl (fun c15 => ?_) (fun hc => absurd (Int32.le_refl _) hc)
          refine hv_iinc h (nI (x + 1)) [(3, .int (nI (x + 1))), (4, .int (nI 12)), (0, .ref k), (1, .ref k2), (2, .int ax)] dX1_becomeView_44 1 rfl (hs_inc _) (by decide) rfl ?_
          refine hv_goto h 2 dX1_becomeView_47 rfl ?_
          refine hs_pick (lv' := [(3, .int (nI (x + 1))), (0, .ref k), (1, .ref k2), (2, .int ax)]) [0, 2, 3, 4] rfl ?_
          exact ih2 (x + 1) (by omega) _ (by rw [hx_it_s, ← e_F1]; try first | assumption | with_reducible rfl | (simp [c5, c15]; done))
        | succ d11 ih11 =>
          intro y kq11 F2 e_F2
          have hlt11 : y < 12 := by omega
          refine hv_iload h dX1_becomeView_11 0 rfl ?_
          refine hv_bipush h (nI 12) dX1_becomeView_13 (by decide) ?_
          refine hv_icmp_ge h 44 dX1_becomeView_15 rfl (fun hc => absurd hc (nI_ge hlt11 (by decide))) (fun c15 => ?_)
          refine hv_aload_n h dX1_becomeView_18 2 rfl rfl ?_
          refine hv_get (C := RX1) (T := TX1) (N := 1) h q (hs_oth n0 hk) rfl 0 (by decide) wu_X1 w_fieldLink_X1_9 (fun _ h9 => h9) rfl dX1_becomeView_19 ?_
          refine hv_iload_n h dX1_becomeView_22 1 rfl rfl ?_
          refine hv_bipush h (12) dX1_becomeView_23 (by decide) ?_
          refine hw_imul h (nI (x * 12)) dX1_becomeView_25 (pk_mul x 12) ?_
          refine hv_iload h dX1_becomeView_26 0 rfl ?_
          refine hw_iadd h (nI ((x * 12) + y)) dX1_becomeView_28 (nI_add (x * 12) y) ?_
          refine hv_aload_n h dX1_becomeView_29 3 rfl rfl ?_
          refine hv_iload_n h dX1_becomeView_30 4 rfl rfl ?_
          refine hv_iload_n h dX1_becomeView_31 1 rfl rfl ?_
          refine hv_iload h dX1_becomeView_32 0 rfl ?_
          refine hv_callp (ws' := (ws.set qa (a, .inl (cI, 144, .inl F2)))) (v := hx_al f2 ax (nI x) (nI y)) h (hr_Vi (n := 3) (rest := [.int (nI ((x * 12) + y)), .ref a]) h q2 (hs_oth n2 hk2) rfl (k_X1_columnAlong l D cI cC (ws.set qa (a, .inl (cI, 144, .inl F2))) q2 q2a k2 a2 f2 (hs_oth n2 hk2) (hs_oth n2a ha2) ax (nI x) (nI y)) w_methodLink_X1_23 w_instanceMethod_X1_columnAlong w_selects_X1_columnAlong w_initialized_X1 w_code_X1_columnAlong (by decide +kernel) rfl rfl rfl ⟨by decide, by decide⟩ rfl (Nat.le_of_ble_eq_true rfl) ⟨Nat.zero_le _, Nat.zero_le _⟩ dX1_becomeView_34) ?_
          refine hv_iast (ws' := (ws.set qa (a, .inl (cI, 144, .inl (upd F2 ((x * 12) + y) (hx_al f2 ax (nI x) (nI y))))))) h qa 0 (hs_got ha) rfl (vp_in_nI (by omega) (by decide)) dX1_becomeView_37 (by rw [nI_clamp (by omega), List.set_set]) ?_
          refine hv_iinc h (nI (y + 1)) [(4, .int (nI (y + 1))), (3, .int (nI x)), (0, .ref k), (1, .ref k2), (2, .int ax)] dX1_becomeView_38 0 rfl (hs_inc _) (by decide) rfl ?_
          refine hv_goto h 11 dX1_becomeView_41 rfl ?_
          exact ih11 (y + 1) (by omega) _ (by rw [hx_it_s, ← e_F2]; try first | assumption | with_reducible rfl | (simp [hx_vw, c5, c15]; done))
      exact L11 12 0 (by omega) _ rfl
  exact L2 12 0 (by omega) _ rfl
abbrev rX1_becomeBox : Room := { frames := 1, cells := 0, slots := 0, locals := 21 }
set_option maxHeartbeats 1000000 in
set_option maxRecDepth 100000 in
theorem k_X1_becomeBox (l : Launch) (D : va_G) (cI cC : ClassId) (ws : va_W) (q qa k a : Nat) (f : Nat → Int32) (hk : ws[q]? = some (k, .inr (hsCi, [.ref a]))) (ha : ws[qa]? = some (a, .inl (cI, 144, .inl f))) (n0 : qa ≠ q) (x0 : Int32) (y0 : Int32) (z0 : Int32) (x1 : Int32) (y1 : Int32) (z1 : Int32) : hsN l yX1_becomeBox wsX1_becomeBox rX1_becomeBox D vwCl (hsT cI cC) [.ref k, .int x0, .int y0, .int z0, .int x1, .int y1, .int z1] ws (fun w => w = (ws.set qa (a, .inl (cI, 144, .inl (hx_fill (hx_bx x0 y0 z0 x1 y1 z1) f))))) := by
  refine hsN.enter (cc := cX1_becomeBox) (maxL := 11) (ret := none) (by decide) rfl (Nat.le_of_ble_eq_true rfl) ?_
  intro Pg En Ss Mi Ar Be Me Co AA QQ hQ h hr hlk
  refine hs_lv (lv' := [(0, .ref k), (1, .int x0), (2, .int y0), (3, .int z0), (4, .int x1), (5, .int y1), (6, .int z1)]) rfl ?_
  refine hv_iload_n h dX1_becomeBox_0 3 rfl rfl ?_
  refine hv_iload h dX1_becomeBox_1 6 rfl ?_
  refine hv_callp (ws' := ws) (v := hx_span z0 z1) h (hr_Si (n := 2) (rest := []) h (k_X1_spanOf l D cI cC ws z0 z1) w_methodLink_X1_27 w_static_X1_spanOf w_initialized_X1 w_code_X1_spanOf (by decide +kernel) rfl rfl rfl ⟨by decide, by decide⟩ rfl (Nat.le_of_ble_eq_true rfl) ⟨Nat.zero_le _, Nat.zero_le _⟩ dX1_becomeBox_3) ?_
  refine hv_istore h [(7, .int (hx_span z0 z1)), (0, .ref k), (1, .int x0), (2, .int y0), (3, .int z0), (4, .int x1), (5, .int y1), (6, .int z1)] dX1_becomeBox_6 (by decide) rfl ?_
  refine hv_iconst h (nI 0) dX1_becomeBox_8 (by decide) ?_
  refine hv_istore h [(8, .int (nI 0)), (7, .int (hx_span z0 z1)), (0, .ref k), (1, .int x0), (2, .int y0), (3, .int z0), (4, .int x1), (5, .int y1), (6, .int z1)] dX1_becomeBox_9 (by decide) rfl ?_
  refine hs_ws (hs_self ha).symm ?_
  have L11 : ∀ d11 x : Nat, x + d11 = 12 → ∀ (F1 : Nat → Int32), F1 = hx_it (fun x F => hx_it (fun y F => upd F (x * 12 + y) ((hx_bx x0 y0 z0 x1 y1 z1) x y)) 12 F) x f → hsV Pg l En rX1_becomeBox Ss Mi Ar Be Me Co QQ 11 D vwCl AA Ss.heap 0 0 11 [(8, .int (nI x)), (7, .int (hx_span z0 z1)), (0, .ref k), (1, .int x0), (2, .int y0), (3, .int z0), (4, .int x1), (5, .int y1), (6, .int z1)] (ws.set qa (a, .inl (cI, 144, .inl F1))) [] := by
    intro d11
    induction d11 with
    | zero =>
      intro x kq11 F1 e_F1
      obtain rfl : x = 12 := by omega
      refine hv_iload h dX1_becomeBox_11 0 rfl ?_
      refine hv_bipush h (nI 12) dX1_becomeBox_13 (by decide) ?_
      refine hv_icmp_ge h 97 dX1_becomeBox_15 rfl (fun c15 => ?_) (fun hc => absurd (Int32.le_refl _) hc)
      exact hv_vret h hr hlk hQ dX1_becomeBox_97 (by rw [e_F1]; rfl)
    | succ d11 ih11 =>
      intro x kq11 F1 e_F1
      have hlt11 : x < 12 := by omega
      refine hv_iload h dX1_becomeBox_11 0 rfl ?_
      refine hv_bipush h (nI 12) dX1_becomeBox_13 (by decide) ?_
      refine hv_icmp_ge h 97 dX1_becomeBox_15 rfl (fun hc => absurd hc (nI_ge hlt11 (by decide))) (fun c15 => ?_)
      refine hv_iconst h (nI 0) dX1_becomeBox_18 (by decide) ?_
      refine hv_istore h [(9, .int (nI 0)), (8, .int (nI x)), (7, .int (hx_span z0 z1)), (0, .ref k), (1, .int x0), (2, .int y0), (3, .int z0), (4, .int x1), (5, .int y1), (6, .int z1)] dX1_becomeBox_19 (by decide) rfl ?_
      have L21 : ∀ d21 y : Nat, y + d21 = 12 → ∀ (F2 : Nat → Int32), F2 = hx_it (fun y F => upd F (x * 12 + y) ((hx_bx x0 y0 z0 x1 y1 z1) x y)) y F1 → hsV Pg l En rX1_becomeBox Ss Mi Ar Be Me Co QQ 11 D vwCl AA Ss.heap 0 0 21 [(9, .int (nI y)), (8, .int (nI x)), (7, .int (hx_span z0 z1)), (0, .ref k), (1, .int x0), (2, .int y0), (3, .int z0), (4, .int x1), (5, .int y1), (6, .int z1)] (ws.set qa (a, .inl (cI, 144, .inl F2))) [] := by
        intro d21
        induction d21 with
        | zero =>
          intro y kq21 F2 e_F2
          obtain rfl : y = 12 := by omega
          refine hv_iload h dX1_becomeBox_21 0 rfl ?_
          refine hv_bipush h (nI 12) dX1_becomeBox_23 (by decide) ?_
          refine hv_icmp_ge h 91 dX1_becomeBox_25 rfl (fun c25 => ?_) (fun hc => absurd (Int32.le_refl _) hc)
          refine hv_iinc h (nI (x + 1)) [(8, .int (nI (x + 1))), (9, .int (nI 12)), (7, .int (hx_span z0 z1)), (0, .ref k), (1, .int x0), (2, .int y0), (3, .int z0), (4, .int x1), (5, .int y1), (6, .int z1)] dX1_becomeBox_91 1 rfl (hs_inc _) (by decide) rfl ?_
          refine hv_goto h 11 dX1_becomeBox_94 rfl ?_
          refine hs_pick (lv' := [(8, .int (nI (x + 1))), (7, .int (hx_span z0 z1)), (0, .ref k), (1, .int x0), (2, .int y0), (3, .int z0), (4, .int x1), (5, .int y1), (6, .int z1)]) [0, 2, 3, 4, 5, 6, 7, 8, 9] rfl ?_
          exact ih11 (x + 1) (by omega) _ (by rw [hx_it_s, ← e_F1]; try first | assumption | with_reducible rfl | (simp [c15, c25]; done))
        | succ d21 ih21 =>
          intro y kq21 F2 e_F2
          have hlt21 : y < 12 := by omega
          refine hv_iload h dX1_becomeBox_21 0 rfl ?_
          refine hv_bipush h (nI 12) dX1_becomeBox_23 (by decide) ?_
          refine hv_icmp_ge h 91 dX1_becomeBox_25 rfl (fun hc => absurd hc (nI_ge hlt21 (by decide))) (fun c25 => ?_)
          refine hv_iload h dX1_becomeBox_28 1 rfl ?_
          refine hv_iload_n h dX1_becomeBox_30 4 rfl rfl ?_
          refine hv_icmp_lt h 58 dX1_becomeBox_31 rfl (fun c31 => ?_) (fun c31 => ?_)
          · refine hv_iconst h (0) dX1_becomeBox_58 (by decide) ?_
            refine hv_istore h [(10, .int 0), (9, .int (nI y)), (8, .int (nI x)), (7, .int (hx_span z0 z1)), (0, .ref k), (1, .int x0), (2, .int y0), (3, .int z0), (4, .int x1), (5, .int y1), (6, .int z1)] dX1_becomeBox_59 (by decide) rfl ?_
            refine hv_aload_n h dX1_becomeBox_61 4 rfl rfl ?_
            refine hv_get (C := RX1) (T := TX1) (N := 1) h q (hs_oth n0 hk) rfl 0 (by decide) wu_X1 w_fieldLink_X1_9 (fun _ h9 => h9) rfl dX1_becomeBox_62 ?_
            refine hv_iload h dX1_becomeBox_65 2 rfl ?_
            refine hv_bipush h (12) dX1_becomeBox_67 (by decide) ?_
            refine hw_imul h (nI (x * 12)) dX1_becomeBox_69 (pk_mul x 12) ?_
            refine hv_iload h dX1_becomeBox_70 1 rfl ?_
            refine hw_iadd h (nI ((x * 12) + y)) dX1_becomeBox_72 (nI_add (x * 12) y) ?_
            refine hv_iload h dX1_becomeBox_73 0 rfl ?_
            refine hv_if_eq h 83 dX1_becomeBox_75 rfl (fun c75 => ?_) (fun hc => absurd (by decide) hc)
            refine hv_iconst h (0) dX1_becomeBox_83 (by decide) ?_
            refine hv_iast (ws' := (ws.set qa (a, .inl (cI, 144, .inl (upd F2 ((x * 12) + y) 0))))) h qa 0 (hs_got ha) rfl (vp_in_nI (by omega) (by decide)) dX1_becomeBox_84 (by rw [nI_clamp (by omega), List.set_set]) ?_
            refine hv_iinc h (nI (y + 1)) [(9, .int (nI (y + 1))), (10, .int 0), (8, .int (nI x)), (7, .int (hx_span z0 z1)), (0, .ref k), (1, .int x0), (2, .int y0), (3, .int z0), (4, .int x1), (5, .int y1), (6, .int z1)] dX1_becomeBox_85 1 rfl (hs_inc _) (by decide) rfl ?_
            refine hv_goto h 21 dX1_becomeBox_88 rfl ?_
            refine hs_pick (lv' := [(9, .int (nI (y + 1))), (8, .int (nI x)), (7, .int (hx_span z0 z1)), (0, .ref k), (1, .int x0), (2, .int y0), (3, .int z0), (4, .int x1), (5, .int y1), (6, .int z1)]) [0, 2, 3, 4, 5, 6, 7, 8, 9, 10] rfl ?_
            exact ih21 (y + 1) (by omega) _ (by rw [hx_it_s, ← e_F2]; try first | assumption | with_reducible rfl | (simp [hx_bx, c15, c25, c31, c75]; done))
          · refine hv_iload h dX1_becomeBox_34 1 rfl ?_
            refine hv_iload h dX1_becomeBox_36 7 rfl ?_
            refine hv_icmp_gt h 58 dX1_becomeBox_38 rfl (fun c38 => ?_) (fun c38 => ?_)
            · refine hv_iconst h (0) dX1_becomeBox_58 (by decide) ?_
              refine hv_istore h [(10, .int 0), (9, .int (nI y)), (8, .int (nI x)), (7, .int (hx_span z0 z1)), (0, .ref k), (1, .int x0), (2, .int y0), (3, .int z0), (4, .int x1), (5, .int y1), (6, .int z1)] dX1_becomeBox_59 (by decide) rfl ?_
              refine hv_aload_n h dX1_becomeBox_61 4 rfl rfl ?_
              refine hv_get (C := RX1) (T := TX1) (N := 1) h q (hs_oth n0 hk) rfl 0 (by decide) wu_X1 w_fieldLink_X1_9 (fun _ h9 => h9) rfl dX1_becomeBox_62 ?_
              refine hv_iload h dX1_becomeBox_65 2 rfl ?_
              refine hv_bipush h (12) dX1_becomeBox_67 (by decide) ?_
              refine hw_imul h (nI (x * 12)) dX1_becomeBox_69 (pk_mul x 12) ?_
              refine hv_iload h dX1_becomeBox_70 1 rfl ?_
              refine hw_iadd h (nI ((x * 12) + y)) dX1_becomeBox_72 (nI_add (x * 12) y) ?_
              refine hv_iload h dX1_becomeBox_73 0 rfl ?_
              refine hv_if_eq h 83 dX1_becomeBox_75 rfl (fun c75 => ?_) (fun hc => absurd (by decide) hc)
              refine hv_iconst h (0) dX1_becomeBox_83 (by decide) ?_
              refine hv_iast (ws' := (ws.set qa (a, .inl (cI, 144, .inl (upd F2 ((x * 12) + y) 0))))) h qa 0 (hs_got ha) rfl (vp_in_nI (by omega) (by decide)) dX1_becomeBox_84 (by rw [nI_clamp (by omega), List.set_set]) ?_
              refine hv_iinc h (nI (y + 1)) [(9, .int (nI (y + 1))), (10, .int 0), (8, .int (nI x)), (7, .int (hx_span z0 z1)), (0, .ref k), (1, .int x0), (2, .int y0), (3, .int z0), (4, .int x1), (5, .int y1), (6, .int z1)] dX1_becomeBox_85 1 rfl (hs_inc _) (by decide) rfl ?_
              refine hv_goto h 21 dX1_becomeBox_88 rfl ?_
              refine hs_pick (lv' := [(9, .int (nI (y + 1))), (8, .int (nI x)), (7, .int (hx_span z0 z1)), (0, .ref k), (1, .int x0), (2, .int y0), (3, .int z0), (4, .int x1), (5, .int y1), (6, .int z1)]) [0, 2, 3, 4, 5, 6, 7, 8, 9, 10] rfl ?_
              exact ih21 (y + 1) (by omega) _ (by rw [hx_it_s, ← e_F2]; try first | assumption | with_reducible rfl | (simp [hx_bx, c15, c25, c31, c38, c75]; done))
            · refine hv_iload h dX1_becomeBox_41 0 rfl ?_
              refine hv_iload_n h dX1_becomeBox_43 5 rfl rfl ?_
              refine hv_icmp_lt h 58 dX1_becomeBox_44 rfl (fun c44 => ?_) (fun c44 => ?_)
              · refine hv_iconst h (0) dX1_becomeBox_58 (by decide) ?_
                refine hv_istore h [(10, .int 0), (9, .int (nI y)), (8, .int (nI x)), (7, .int (hx_span z0 z1)), (0, .ref k), (1, .int x0), (2, .int y0), (3, .int z0), (4, .int x1), (5, .int y1), (6, .int z1)] dX1_becomeBox_59 (by decide) rfl ?_
                refine hv_aload_n h dX1_becomeBox_61 4 rfl rfl ?_
                refine hv_get (C := RX1) (T := TX1) (N := 1) h q (hs_oth n0 hk) rfl 0 (by decide) wu_X1 w_fieldLink_X1_9 (fun _ h9 => h9) rfl dX1_becomeBox_62 ?_
                refine hv_iload h dX1_becomeBox_65 2 rfl ?_
                refine hv_bipush h (12) dX1_becomeBox_67 (by decide) ?_
                refine hw_imul h (nI (x * 12)) dX1_becomeBox_69 (pk_mul x 12) ?_
                refine hv_iload h dX1_becomeBox_70 1 rfl ?_
                refine hw_iadd h (nI ((x * 12) + y)) dX1_becomeBox_72 (nI_add (x * 12) y) ?_
                refine hv_iload h dX1_becomeBox_73 0 rfl ?_
                refine hv_if_eq h 83 dX1_becomeBox_75 rfl (fun c75 => ?_) (fun hc => absurd (by decide) hc)
                refine hv_iconst h (0) dX1_becomeBox_83 (by decide) ?_
                refine hv_iast (ws' := (ws.set qa (a, .inl (cI, 144, .inl (upd F2 ((x * 12) + y) 0))))) h qa 0 (hs_got ha) rfl (vp_in_nI (by omega) (by decide)) dX1_becomeBox_84 (by rw [nI_clamp (by omega), List.set_set]) ?_
                refine hv_iinc h (nI (y + 1)) [(9, .int (nI (y + 1))), (10, .int 0), (8, .int (nI x)), (7, .int (hx_span z0 z1)), (0, .ref k), (1, .int x0), (2, .int y0), (3, .int z0), (4, .int x1), (5, .int y1), (6, .int z1)] dX1_becomeBox_85 1 rfl (hs_inc _) (by decide) rfl ?_
                refine hv_goto h 21 dX1_becomeBox_88 rfl ?_
                refine hs_pick (lv' := [(9, .int (nI (y + 1))), (8, .int (nI x)), (7, .int (hx_span z0 z1)), (0, .ref k), (1, .int x0), (2, .int y0), (3, .int z0), (4, .int x1), (5, .int y1), (6, .int z1)]) [0, 2, 3, 4, 5, 6, 7, 8, 9, 10] rfl ?_
                exact ih21 (y + 1) (by omega) _ (by rw [hx_it_s, ← e_F2]; try first | assumption | with_reducible rfl | (simp [hx_bx, c15, c25, c31, c38, c44, c75]; done))
              · refine hv_iload h dX1_becomeBox_47 0 rfl ?_
                refine hv_iload h dX1_becomeBox_49 8 rfl ?_
                refine hv_icmp_gt h 58 dX1_becomeBox_51 rfl (fun c51 => ?_) (fun c51 => ?_)
                · refine hv_iconst h (0) dX1_becomeBox_58 (by decide) ?_
                  refine hv_istore h [(10, .int 0), (9, .int (nI y)), (8, .int (nI x)), (7, .int (hx_span z0 z1)), (0, .ref k), (1, .int x0), (2, .int y0), (3, .int z0), (4, .int x1), (5, .int y1), (6, .int z1)] dX1_becomeBox_59 (by decide) rfl ?_
                  refine hv_aload_n h dX1_becomeBox_61 4 rfl rfl ?_
                  refine hv_get (C := RX1) (T := TX1) (N := 1) h q (hs_oth n0 hk) rfl 0 (by decide) wu_X1 w_fieldLink_X1_9 (fun _ h9 => h9) rfl dX1_becomeBox_62 ?_
                  refine hv_iload h dX1_becomeBox_65 2 rfl ?_
                  refine hv_bipush h (12) dX1_becomeBox_67 (by decide) ?_
                  refine hw_imul h (nI (x * 12)) dX1_becomeBox_69 (pk_mul x 12) ?_
                  refine hv_iload h dX1_becomeBox_70 1 rfl ?_
                  refine hw_iadd h (nI ((x * 12) + y)) dX1_becomeBox_72 (nI_add (x * 12) y) ?_
                  refine hv_iload h dX1_becomeBox_73 0 rfl ?_
                  refine hv_if_eq h 83 dX1_becomeBox_75 rfl (fun c75 => ?_) (fun hc => absurd (by decide) hc)
                  refine hv_iconst h (0) dX1_becomeBox_83 (by decide) ?_
                  refine hv_iast (ws' := (ws.set qa (a, .inl (cI, 144, .inl (upd F2 ((x * 12) + y) 0))))) h qa 0 (hs_got ha) rfl (vp_in_nI (by omega) (by decide)) dX1_becomeBox_84 (by rw [nI_clamp (by omega), List.set_set]) ?_
                  refine hv_iinc h (nI (y + 1)) [(9, .int (nI (y + 1))), (10, .int 0), (8, .int (nI x)), (7, .int (hx_span z0 z1)), (0, .ref k), (1, .int x0), (2, .int y0), (3, .int z0), (4, .int x1), (5, .int y1), (6, .int z1)] dX1_becomeBox_85 1 rfl (hs_inc _) (by decide) rfl ?_
                  refine hv_goto h 21 dX1_becomeBox_88 rfl ?_
                  refine hs_pick (lv' := [(9, .int (nI (y + 1))), (8, .int (nI x)), (7, .int (hx_span z0 z1)), (0, .ref k), (1, .int x0), (2, .int y0), (3, .int z0), (4, .int x1), (5, .int y1), (6, .int z1)]) [0, 2, 3, 4, 5, 6, 7, 8, 9, 10] rfl ?_
                  exact ih21 (y + 1) (by omega) _ (by rw [hx_it_s, ← e_F2]; try first | assumption | with_reducible rfl | (simp [hx_bx, c15, c25, c31, c38, c44, c51, c75]; done))
                · refine hv_iconst h (1) dX1_becomeBox_54 (by decide) ?_
                  refine hv_goto h 59 dX1_becomeBox_55 rfl ?_
                  refine hv_istore h [(10, .int 1), (9, .int (nI y)), (8, .int (nI x)), (7, .int (hx_span z0 z1)), (0, .ref k), (1, .int x0), (2, .int y0), (3, .int z0), (4, .int x1), (5, .int y1), (6, .int z1)] dX1_becomeBox_59 (by decide) rfl ?_
                  refine hv_aload_n h dX1_becomeBox_61 4 rfl rfl ?_
                  refine hv_get (C := RX1) (T := TX1) (N := 1) h q (hs_oth n0 hk) rfl 0 (by decide) wu_X1 w_fieldLink_X1_9 (fun _ h9 => h9) rfl dX1_becomeBox_62 ?_
                  refine hv_iload h dX1_becomeBox_65 2 rfl ?_
                  refine hv_bipush h (12) dX1_becomeBox_67 (by decide) ?_
                  refine hw_imul h (nI (x * 12)) dX1_becomeBox_69 (pk_mul x 12) ?_
                  refine hv_iload h dX1_becomeBox_70 1 rfl ?_
                  refine hw_iadd h (nI ((x * 12) + y)) dX1_becomeBox_72 (nI_add (x * 12) y) ?_
                  refine hv_iload h dX1_becomeBox_73 0 rfl ?_
                  refine hv_if_eq h 83 dX1_becomeBox_75 rfl (fun hc => absurd hc (by decide)) (fun c75 => ?_)
                  refine hv_iload h dX1_becomeBox_78 3 rfl ?_
                  refine hv_goto h 84 dX1_becomeBox_80 rfl ?_
                  refine hv_iast (ws' := (ws.set qa (a, .inl (cI, 144, .inl (upd F2 ((x * 12) + y) (hx_span z0 z1)))))) h qa 0 (hs_got ha) rfl (vp_in_nI (by omega) (by decide)) dX1_becomeBox_84 (by rw [nI_clamp (by omega), List.set_set]) ?_
                  refine hv_iinc h (nI (y + 1)) [(9, .int (nI (y + 1))), (10, .int 1), (8, .int (nI x)), (7, .int (hx_span z0 z1)), (0, .ref k), (1, .int x0), (2, .int y0), (3, .int z0), (4, .int x1), (5, .int y1), (6, .int z1)] dX1_becomeBox_85 1 rfl (hs_inc _) (by decide) rfl ?_
                  refine hv_goto h 21 dX1_becomeBox_88 rfl ?_
                  refine hs_pick (lv' := [(9, .int (nI (y + 1))), (8, .int (nI x)), (7, .int (hx_span z0 z1)), (0, .ref k), (1, .int x0), (2, .int y0), (3, .int z0), (4, .int x1), (5, .int y1), (6, .int z1)]) [0, 2, 3, 4, 5, 6, 7, 8, 9, 10] rfl ?_
                  exact ih21 (y + 1) (by omega) _ (by rw [hx_it_s, ← e_F2]; try first | assumption | with_reducible rfl | (simp [hx_bx, c15, c25, c31, c38, c44, c51, c75]; done))
      exact L21 12 0 (by omega) _ rfl
  exact L11 12 0 (by omega) _ rfl
abbrev rX1_becomeJoined : Room := { frames := 1, cells := 0, slots := 0, locals := 22 }
set_option maxHeartbeats 1000000 in
set_option maxRecDepth 100000 in
theorem k_X1_becomeJoined (l : Launch) (D : va_G) (cI cC : ClassId) (ws : va_W) (q qa k a : Nat) (f : Nat → Int32) (hk : ws[q]? = some (k, .inr (hsCi, [.ref a]))) (ha : ws[qa]? = some (a, .inl (cI, 144, .inl f))) (n0 : qa ≠ q) (q2 q2a k2 a2 : Nat) (f2 : Nat → Int32) (hk2 : ws[q2]? = some (k2, .inr (hsCi, [.ref a2]))) (ha2 : ws[q2a]? = some (a2, .inl (cI, 144, .inl f2))) (n2 : qa ≠ q2) (n2a : qa ≠ q2a) (q3 q3a k3 a3 : Nat) (f3 : Nat → Int32) (hk3 : ws[q3]? = some (k3, .inr (hsCi, [.ref a3]))) (ha3 : ws[q3a]? = some (a3, .inl (cI, 144, .inl f3))) (n3 : qa ≠ q3) (n3a : qa ≠ q3a) (w0 : Int32) : hsN l yX1_becomeJoined wsX1_becomeJoined rX1_becomeJoined D vwCl (hsT cI cC) [.ref k, .ref k2, .ref k3, .int w0] ws (fun w => w = (ws.set qa (a, .inl (cI, 144, .inl (hx_jf f2 f3 w0 f))))) := by
  refine hsN.enter (cc := cX1_becomeJoined) (maxL := 5) (ret := none) (by decide) rfl (Nat.le_of_ble_eq_true rfl) ?_
  intro Pg En Ss Mi Ar Be Me Co AA QQ hQ h hr hlk
  refine hs_lv (lv' := [(0, .ref k), (1, .ref k2), (2, .ref k3), (3, .int w0)]) rfl ?_
  refine hv_iconst h (nI 0) dX1_becomeJoined_0 (by decide) ?_
  refine hv_istore h [(4, .int (nI 0)), (0, .ref k), (1, .ref k2), (2, .ref k3), (3, .int w0)] dX1_becomeJoined_1 (by decide) rfl ?_
  refine hs_ws (hs_self ha).symm ?_
  have L3 : ∀ d3 i : Nat, i + d3 = 144 → ∀ (F1 : Nat → Int32), F1 = hx_it (fun i F => upd F i (hx_jn (f2 i) (f3 i) w0)) i f → hsV Pg l En rX1_becomeJoined Ss Mi Ar Be Me Co QQ 5 D vwCl AA Ss.heap 0 0 3 [(4, .int (nI i)), (0, .ref k), (1, .ref k2), (2, .ref k3), (3, .int w0)] (ws.set qa (a, .inl (cI, 144, .inl F1))) [] := by
    intro d3
    induction d3 with
    | zero =>
      intro i kq3 F1 e_F1
      obtain rfl : i = 144 := by omega
      refine hv_iload h dX1_becomeJoined_3 0 rfl ?_
      refine hv_sipush h (nI 144) dX1_becomeJoined_5 (by decide) ?_
      refine hv_icmp_ge h 42 dX1_becomeJoined_8 rfl (fun c8 => ?_) (fun hc => absurd (Int32.le_refl _) hc)
      exact hv_vret h hr hlk hQ dX1_becomeJoined_42 (by rw [e_F1]; rfl)
    | succ d3 ih3 =>
      intro i kq3 F1 e_F1
      have hlt3 : i < 144 := by omega
      refine hv_iload h dX1_becomeJoined_3 0 rfl ?_
      refine hv_sipush h (nI 144) dX1_becomeJoined_5 (by decide) ?_
      refine hv_icmp_ge h 42 dX1_becomeJoined_8 rfl (fun hc => absurd hc (nI_ge hlt3 (by decide))) (fun c8 => ?_)
      refine hv_aload_n h dX1_becomeJoined_11 1 rfl rfl ?_
      refine hv_get (C := RX1) (T := TX1) (N := 1) h q (hs_oth n0 hk) rfl 0 (by decide) wu_X1 w_fieldLink_X1_9 (fun _ h9 => h9) rfl dX1_becomeJoined_12 ?_
      refine hv_iload h dX1_becomeJoined_15 0 rfl ?_
      refine hv_aload_n h dX1_becomeJoined_17 2 rfl rfl ?_
      refine hv_get (C := RX1) (T := TX1) (N := 1) h q2 (hs_oth n2 hk2) rfl 0 (by decide) wu_X1 w_fieldLink_X1_9 (fun _ h9 => h9) rfl dX1_becomeJoined_18 ?_
      refine hv_iload h dX1_becomeJoined_21 0 rfl ?_
      refine hv_iald (v := f2 i) h q2a 0 (hs_oth n2a ha2) rfl (vp_in_nI (by omega) (by decide)) (by rw [nI_clamp (by omega)]) dX1_becomeJoined_23 ?_
      refine hv_aload_n h dX1_becomeJoined_24 3 rfl rfl ?_
      refine hv_get (C := RX1) (T := TX1) (N := 1) h q3 (hs_oth n3 hk3) rfl 0 (by decide) wu_X1 w_fieldLink_X1_9 (fun _ h9 => h9) rfl dX1_becomeJoined_25 ?_
      refine hv_iload h dX1_becomeJoined_28 0 rfl ?_
      refine hv_iald (v := f3 i) h q3a 0 (hs_oth n3a ha3) rfl (vp_in_nI (by omega) (by decide)) (by rw [nI_clamp (by omega)]) dX1_becomeJoined_30 ?_
      refine hv_iload_n h dX1_becomeJoined_31 4 rfl rfl ?_
      refine hv_callp (ws' := (ws.set qa (a, .inl (cI, 144, .inl F1)))) (v := hx_jn (f2 i) (f3 i) w0) h (hr_Si (n := 3) (rest := [.int (nI i), .ref a]) h (k_X1_joined l D cI cC (ws.set qa (a, .inl (cI, 144, .inl F1))) (f2 i) (f3 i) w0) w_methodLink_X1_30 w_static_X1_joined w_initialized_X1 w_code_X1_joined (by decide +kernel) rfl rfl rfl ⟨by decide, by decide⟩ rfl (Nat.le_of_ble_eq_true rfl) ⟨Nat.zero_le _, Nat.zero_le _⟩ dX1_becomeJoined_32) ?_
      refine hv_iast (ws' := (ws.set qa (a, .inl (cI, 144, .inl (upd F1 i (hx_jn (f2 i) (f3 i) w0)))))) h qa 0 (hs_got ha) rfl (vp_in_nI (by omega) (by decide)) dX1_becomeJoined_35 (by rw [nI_clamp (by omega), List.set_set]) ?_
      refine hv_iinc h (nI (i + 1)) [(4, .int (nI (i + 1))), (0, .ref k), (1, .ref k2), (2, .ref k3), (3, .int w0)] dX1_becomeJoined_36 0 rfl (hs_inc _) (by decide) rfl ?_
      refine hv_goto h 3 dX1_becomeJoined_39 rfl ?_
      exact ih3 (i + 1) (by omega) _ (by rw [hx_it_s, ← e_F1]; try first | assumption | with_reducible rfl | (simp [c8]; done))
  exact L3 144 0 (by omega) _ rfl
abbrev rX1_becomeTurned : Room := { frames := 4, cells := 0, slots := 0, locals := 91 }
set_option maxHeartbeats 1000000 in
set_option maxRecDepth 100000 in
theorem k_X1_becomeTurned (l : Launch) (D : va_G) (cI cC : ClassId) (ws : va_W) (q qa k a : Nat) (f : Nat → Int32) (hk : ws[q]? = some (k, .inr (hsCi, [.ref a]))) (ha : ws[qa]? = some (a, .inl (cI, 144, .inl f))) (n0 : qa ≠ q) (q2 q2a k2 a2 : Nat) (f2 : Nat → Int32) (hk2 : ws[q2]? = some (k2, .inr (hsCi, [.ref a2]))) (ha2 : ws[q2a]? = some (a2, .inl (cI, 144, .inl f2))) (n2 : qa ≠ q2) (n2a : qa ≠ q2a) (ax : Int32) : hsN l yX1_becomeTurned wsX1_becomeTurned rX1_becomeTurned D vwCl (hsT cI cC) [.ref k, .ref k2, .int ax] ws (fun w => w = (ws.set qa (a, .inl (cI, 144, .inl (hx_fill (fun x y => hx_tc f2 ax (nI x) (nI y)) f))))) := by
  refine hsN.enter (cc := cX1_becomeTurned) (maxL := 5) (ret := none) (by decide) rfl (Nat.le_of_ble_eq_true rfl) ?_
  intro Pg En Ss Mi Ar Be Me Co AA QQ hQ h hr hlk
  refine hs_lv (lv' := [(0, .ref k), (1, .ref k2), (2, .int ax)]) rfl ?_
  refine hv_iconst h (nI 0) dX1_becomeTurned_0 (by decide) ?_
  refine hv_istore_n h [(3, .int (nI 0)), (0, .ref k), (1, .ref k2), (2, .int ax)] dX1_becomeTurned_1 rfl (by decide) rfl ?_
  refine hs_ws (hs_self ha).symm ?_
  have L2 : ∀ d2 x : Nat, x + d2 = 12 → ∀ (F1 : Nat → Int32), F1 = hx_it (fun x F => hx_it (fun y F => upd F (x * 12 + y) ((fun x y => hx_tc f2 ax (nI x) (nI y)) x y)) 12 F) x f → hsV Pg l En rX1_becomeTurned Ss Mi Ar Be Me Co QQ 5 D vwCl AA Ss.heap 0 0 2 [(3, .int (nI x)), (0, .ref k), (1, .ref k2), (2, .int ax)] (ws.set qa (a, .inl (cI, 144, .inl F1))) [] := by
    intro d2
    induction d2 with
    | zero =>
      intro x kq2 F1 e_F1
      obtain rfl : x = 12 := by omega
      refine hv_iload_n h dX1_becomeTurned_2 0 rfl rfl ?_
      refine hv_bipush h (nI 12) dX1_becomeTurned_3 (by decide) ?_
      refine hv_icmp_ge h 50 dX1_becomeTurned_5 rfl (fun c5 => ?_) (fun hc => absurd (Int32.le_refl _) hc)
      exact hv_vret h hr hlk hQ dX1_becomeTurned_50 (by rw [e_F1]; rfl)
    | succ d2 ih2 =>
      intro x kq2 F1 e_F1
      have hlt2 : x < 12 := by omega
      refine hv_iload_n h dX1_becomeTurned_2 0 rfl rfl ?_
      refine hv_bipush h (nI 12) dX1_becomeTurned_3 (by decide) ?_
      refine hv_icmp_ge h 50 dX1_becomeTurned_5 rfl (fun hc => absurd hc (nI_ge hlt2 (by decide))) (fun c5 => ?_)
      refine hv_iconst h (nI 0) dX1_becomeTurned_8 (by decide) ?_
      refine hv_istore h [(4, .int (nI 0)), (3, .int (nI x)), (0, .ref k), (1, .ref k2), (2, .int ax)] dX1_becomeTurned_9 (by decide) rfl ?_
      have L11 : ∀ d11 y : Nat, y + d11 = 12 → ∀ (F2 : Nat → Int32), F2 = hx_it (fun y F => upd F (x * 12 + y) ((fun x y => hx_tc f2 ax (nI x) (nI y)) x y)) y F1 → hsV Pg l En rX1_becomeTurned Ss Mi Ar Be Me Co QQ 5 D vwCl AA Ss.heap 0 0 11 [(4, .int (nI y)), (3, .int (nI x)), (0, .ref k), (1, .ref k2), (2, .int ax)] (ws.set qa (a, .inl (cI, 144, .inl F2))) [] := by
        intro d11
        induction d11 with
        | zero =>
          intro y kq11 F2 e_F2
          obtain rfl : y = 12 := by omega
          refine hv_iload h dX1_becomeTurned_11 0 rfl ?_
          refine hv_bipush h (nI 12) dX1_becomeTurned_13 (by decide) ?_
          refine hv_icmp_ge h 44 dX1_becomeTurned_15 rfl (fun c15 => ?_) (fun hc => absurd (Int32.le_refl _) hc)
          refine hv_iinc h (nI (x + 1)) [(3, .int (nI (x + 1))), (4, .int (nI 12)), (0, .ref k), (1, .ref k2), (2, .int ax)] dX1_becomeTurned_44 1 rfl (hs_inc _) (by decide) rfl ?_
          refine hv_goto h 2 dX1_becomeTurned_47 rfl ?_
          refine hs_pick (lv' := [(3, .int (nI (x + 1))), (0, .ref k), (1, .ref k2), (2, .int ax)]) [0, 2, 3, 4] rfl ?_
          exact ih2 (x + 1) (by omega) _ (by rw [hx_it_s, ← e_F1]; try first | assumption | with_reducible rfl | (simp [c5, c15]; done))
        | succ d11 ih11 =>
          intro y kq11 F2 e_F2
          have hlt11 : y < 12 := by omega
          refine hv_iload h dX1_becomeTurned_11 0 rfl ?_
          refine hv_bipush h (nI 12) dX1_becomeTurned_13 (by decide) ?_
          refine hv_icmp_ge h 44 dX1_becomeTurned_15 rfl (fun hc => absurd hc (nI_ge hlt11 (by decide))) (fun c15 => ?_)
          refine hv_aload_n h dX1_becomeTurned_18 2 rfl rfl ?_
          refine hv_get (C := RX1) (T := TX1) (N := 1) h q (hs_oth n0 hk) rfl 0 (by decide) wu_X1 w_fieldLink_X1_9 (fun _ h9 => h9) rfl dX1_becomeTurned_19 ?_
          refine hv_iload_n h dX1_becomeTurned_22 1 rfl rfl ?_
          refine hv_bipush h (12) dX1_becomeTurned_23 (by decide) ?_
          refine hw_imul h (nI (x * 12)) dX1_becomeTurned_25 (pk_mul x 12) ?_
          refine hv_iload h dX1_becomeTurned_26 0 rfl ?_
          refine hw_iadd h (nI ((x * 12) + y)) dX1_becomeTurned_28 (nI_add (x * 12) y) ?_
          refine hv_aload_n h dX1_becomeTurned_29 3 rfl rfl ?_
          refine hv_iload_n h dX1_becomeTurned_30 4 rfl rfl ?_
          refine hv_iload_n h dX1_becomeTurned_31 1 rfl rfl ?_
          refine hv_iload h dX1_becomeTurned_32 0 rfl ?_
          refine hv_callp (ws' := (ws.set qa (a, .inl (cI, 144, .inl F2)))) (v := hx_tc f2 ax (nI x) (nI y)) h (hr_Si (n := 4) (rest := [.int (nI ((x * 12) + y)), .ref a]) h (k_X1_turnedColumn l D cI cC (ws.set qa (a, .inl (cI, 144, .inl F2))) q2 q2a k2 a2 f2 (hs_oth n2 hk2) (hs_oth n2a ha2) ax (nI x) (nI y)) w_methodLink_X1_33 w_static_X1_turnedColumn w_initialized_X1 w_code_X1_turnedColumn (by decide +kernel) rfl rfl rfl ⟨by decide, by decide⟩ rfl (Nat.le_of_ble_eq_true rfl) ⟨Nat.zero_le _, Nat.zero_le _⟩ dX1_becomeTurned_34) ?_
          refine hv_iast (ws' := (ws.set qa (a, .inl (cI, 144, .inl (upd F2 ((x * 12) + y) (hx_tc f2 ax (nI x) (nI y))))))) h qa 0 (hs_got ha) rfl (vp_in_nI (by omega) (by decide)) dX1_becomeTurned_37 (by rw [nI_clamp (by omega), List.set_set]) ?_
          refine hv_iinc h (nI (y + 1)) [(4, .int (nI (y + 1))), (3, .int (nI x)), (0, .ref k), (1, .ref k2), (2, .int ax)] dX1_becomeTurned_38 0 rfl (hs_inc _) (by decide) rfl ?_
          refine hv_goto h 11 dX1_becomeTurned_41 rfl ?_
          exact ih11 (y + 1) (by omega) _ (by rw [hx_it_s, ← e_F2]; try first | assumption | with_reducible rfl | (simp [c5, c15]; done))
      exact L11 12 0 (by omega) _ rfl
  exact L2 12 0 (by omega) _ rfl
abbrev rX1_becomeMirrored : Room := { frames := 4, cells := 0, slots := 0, locals := 83 }
set_option maxHeartbeats 1000000 in
set_option maxRecDepth 100000 in
theorem k_X1_becomeMirrored (l : Launch) (D : va_G) (cI cC : ClassId) (ws : va_W) (q qa k a : Nat) (f : Nat → Int32) (hk : ws[q]? = some (k, .inr (hsCi, [.ref a]))) (ha : ws[qa]? = some (a, .inl (cI, 144, .inl f))) (n0 : qa ≠ q) (q2 q2a k2 a2 : Nat) (f2 : Nat → Int32) (hk2 : ws[q2]? = some (k2, .inr (hsCi, [.ref a2]))) (ha2 : ws[q2a]? = some (a2, .inl (cI, 144, .inl f2))) (n2 : qa ≠ q2) (n2a : qa ≠ q2a) (ax : Int32) : hsN l yX1_becomeMirrored wsX1_becomeMirrored rX1_becomeMirrored D vwCl (hsT cI cC) [.ref k, .ref k2, .int ax] ws (fun w => w = (ws.set qa (a, .inl (cI, 144, .inl (hx_fill (fun x y => hx_mc f2 ax (nI x) (nI y)) f))))) := by
  refine hsN.enter (cc := cX1_becomeMirrored) (maxL := 5) (ret := none) (by decide) rfl (Nat.le_of_ble_eq_true rfl) ?_
  intro Pg En Ss Mi Ar Be Me Co AA QQ hQ h hr hlk
  refine hs_lv (lv' := [(0, .ref k), (1, .ref k2), (2, .int ax)]) rfl ?_
  refine hv_iconst h (nI 0) dX1_becomeMirrored_0 (by decide) ?_
  refine hv_istore_n h [(3, .int (nI 0)), (0, .ref k), (1, .ref k2), (2, .int ax)] dX1_becomeMirrored_1 rfl (by decide) rfl ?_
  refine hs_ws (hs_self ha).symm ?_
  have L2 : ∀ d2 x : Nat, x + d2 = 12 → ∀ (F1 : Nat → Int32), F1 = hx_it (fun x F => hx_it (fun y F => upd F (x * 12 + y) ((fun x y => hx_mc f2 ax (nI x) (nI y)) x y)) 12 F) x f → hsV Pg l En rX1_becomeMirrored Ss Mi Ar Be Me Co QQ 5 D vwCl AA Ss.heap 0 0 2 [(3, .int (nI x)), (0, .ref k), (1, .ref k2), (2, .int ax)] (ws.set qa (a, .inl (cI, 144, .inl F1))) [] := by
    intro d2
    induction d2 with
    | zero =>
      intro x kq2 F1 e_F1
      obtain rfl : x = 12 := by omega
      refine hv_iload_n h dX1_becomeMirrored_2 0 rfl rfl ?_
      refine hv_bipush h (nI 12) dX1_becomeMirrored_3 (by decide) ?_
      refine hv_icmp_ge h 50 dX1_becomeMirrored_5 rfl (fun c5 => ?_) (fun hc => absurd (Int32.le_refl _) hc)
      exact hv_vret h hr hlk hQ dX1_becomeMirrored_50 (by rw [e_F1]; rfl)
    | succ d2 ih2 =>
      intro x kq2 F1 e_F1
      have hlt2 : x < 12 := by omega
      refine hv_iload_n h dX1_becomeMirrored_2 0 rfl rfl ?_
      refine hv_bipush h (nI 12) dX1_becomeMirrored_3 (by decide) ?_
      refine hv_icmp_ge h 50 dX1_becomeMirrored_5 rfl (fun hc => absurd hc (nI_ge hlt2 (by decide))) (fun c5 => ?_)
      refine hv_iconst h (nI 0) dX1_becomeMirrored_8 (by decide) ?_
      refine hv_istore h [(4, .int (nI 0)), (3, .int (nI x)), (0, .ref k), (1, .ref k2), (2, .int ax)] dX1_becomeMirrored_9 (by decide) rfl ?_
      have L11 : ∀ d11 y : Nat, y + d11 = 12 → ∀ (F2 : Nat → Int32), F2 = hx_it (fun y F => upd F (x * 12 + y) ((fun x y => hx_mc f2 ax (nI x) (nI y)) x y)) y F1 → hsV Pg l En rX1_becomeMirrored Ss Mi Ar Be Me Co QQ 5 D vwCl AA Ss.heap 0 0 11 [(4, .int (nI y)), (3, .int (nI x)), (0, .ref k), (1, .ref k2), (2, .int ax)] (ws.set qa (a, .inl (cI, 144, .inl F2))) [] := by
        intro d11
        induction d11 with
        | zero =>
          intro y kq11 F2 e_F2
          obtain rfl : y = 12 := by omega
          refine hv_iload h dX1_becomeMirrored_11 0 rfl ?_
          refine hv_bipush h (nI 12) dX1_becomeMirrored_13 (by decide) ?_
          refine hv_icmp_ge h 44 dX1_becomeMirrored_15 rfl (fun c15 => ?_) (fun hc => absurd (Int32.le_refl _) hc)
          refine hv_iinc h (nI (x + 1)) [(3, .int (nI (x + 1))), (4, .int (nI 12)), (0, .ref k), (1, .ref k2), (2, .int ax)] dX1_becomeMirrored_44 1 rfl (hs_inc _) (by decide) rfl ?_
          refine hv_goto h 2 dX1_becomeMirrored_47 rfl ?_
          refine hs_pick (lv' := [(3, .int (nI (x + 1))), (0, .ref k), (1, .ref k2), (2, .int ax)]) [0, 2, 3, 4] rfl ?_
          exact ih2 (x + 1) (by omega) _ (by rw [hx_it_s, ← e_F1]; try first | assumption | with_reducible rfl | (simp [c5, c15]; done))
        | succ d11 ih11 =>
          intro y kq11 F2 e_F2
          have hlt11 : y < 12 := by omega
          refine hv_iload h dX1_becomeMirrored_11 0 rfl ?_
          refine hv_bipush h (nI 12) dX1_becomeMirrored_13 (by decide) ?_
          refine hv_icmp_ge h 44 dX1_becomeMirrored_15 rfl (fun hc => absurd hc (nI_ge hlt11 (by decide))) (fun c15 => ?_)
          refine hv_aload_n h dX1_becomeMirrored_18 2 rfl rfl ?_
          refine hv_get (C := RX1) (T := TX1) (N := 1) h q (hs_oth n0 hk) rfl 0 (by decide) wu_X1 w_fieldLink_X1_9 (fun _ h9 => h9) rfl dX1_becomeMirrored_19 ?_
          refine hv_iload_n h dX1_becomeMirrored_22 1 rfl rfl ?_
          refine hv_bipush h (12) dX1_becomeMirrored_23 (by decide) ?_
          refine hw_imul h (nI (x * 12)) dX1_becomeMirrored_25 (pk_mul x 12) ?_
          refine hv_iload h dX1_becomeMirrored_26 0 rfl ?_
          refine hw_iadd h (nI ((x * 12) + y)) dX1_becomeMirrored_28 (nI_add (x * 12) y) ?_
          refine hv_aload_n h dX1_becomeMirrored_29 3 rfl rfl ?_
          refine hv_iload_n h dX1_becomeMirrored_30 4 rfl rfl ?_
          refine hv_iload_n h dX1_becomeMirrored_31 1 rfl rfl ?_
          refine hv_iload h dX1_becomeMirrored_32 0 rfl ?_
          refine hv_callp (ws' := (ws.set qa (a, .inl (cI, 144, .inl F2)))) (v := hx_mc f2 ax (nI x) (nI y)) h (hr_Si (n := 4) (rest := [.int (nI ((x * 12) + y)), .ref a]) h (k_X1_mirroredColumn l D cI cC (ws.set qa (a, .inl (cI, 144, .inl F2))) q2 q2a k2 a2 f2 (hs_oth n2 hk2) (hs_oth n2a ha2) ax (nI x) (nI y)) w_methodLink_X1_37 w_static_X1_mirroredColumn w_initialized_X1 w_code_X1_mirroredColumn (by decide +kernel) rfl rfl rfl ⟨by decide, by decide⟩ rfl (Nat.le_of_ble_eq_true rfl) ⟨Nat.zero_le _, Nat.zero_le _⟩ dX1_becomeMirrored_34) ?_
          refine hv_iast (ws' := (ws.set qa (a, .inl (cI, 144, .inl (upd F2 ((x * 12) + y) (hx_mc f2 ax (nI x) (nI y))))))) h qa 0 (hs_got ha) rfl (vp_in_nI (by omega) (by decide)) dX1_becomeMirrored_37 (by rw [nI_clamp (by omega), List.set_set]) ?_
          refine hv_iinc h (nI (y + 1)) [(4, .int (nI (y + 1))), (3, .int (nI x)), (0, .ref k), (1, .ref k2), (2, .int ax)] dX1_becomeMirrored_38 0 rfl (hs_inc _) (by decide) rfl ?_
          refine hv_goto h 11 dX1_becomeMirrored_41 rfl ?_
          exact ih11 (y + 1) (by omega) _ (by rw [hx_it_s, ← e_F2]; try first | assumption | with_reducible rfl | (simp [c5, c15]; done))
      exact L11 12 0 (by omega) _ rfl
  exact L2 12 0 (by omega) _ rfl
abbrev rX1_becomeShifted : Room := { frames := 2, cells := 0, slots := 0, locals := 42 }
set_option maxHeartbeats 1000000 in
set_option maxRecDepth 100000 in
theorem k_X1_becomeShifted (l : Launch) (D : va_G) (cI cC : ClassId) (ws : va_W) (q qa k a : Nat) (f : Nat → Int32) (hk : ws[q]? = some (k, .inr (hsCi, [.ref a]))) (ha : ws[qa]? = some (a, .inl (cI, 144, .inl f))) (n0 : qa ≠ q) (q2 q2a k2 a2 : Nat) (f2 : Nat → Int32) (hk2 : ws[q2]? = some (k2, .inr (hsCi, [.ref a2]))) (ha2 : ws[q2a]? = some (a2, .inl (cI, 144, .inl f2))) (n2 : qa ≠ q2) (n2a : qa ≠ q2a) (dx : Int32) (dy : Int32) (dz : Int32) : hsN l yX1_becomeShifted wsX1_becomeShifted rX1_becomeShifted D vwCl (hsT cI cC) [.ref k, .ref k2, .int dx, .int dy, .int dz] ws (fun w => w = (ws.set qa (a, .inl (cI, 144, .inl (hx_fill (hx_sh f2 dx dy dz) f))))) := by
  refine hsN.enter (cc := cX1_becomeShifted) (maxL := 8) (ret := none) (by decide) rfl (Nat.le_of_ble_eq_true rfl) ?_
  intro Pg En Ss Mi Ar Be Me Co AA QQ hQ h hr hlk
  refine hs_lv (lv' := [(0, .ref k), (1, .ref k2), (2, .int dx), (3, .int dy), (4, .int dz)]) rfl ?_
  refine hv_iconst h (nI 0) dX1_becomeShifted_0 (by decide) ?_
  refine hv_istore h [(5, .int (nI 0)), (0, .ref k), (1, .ref k2), (2, .int dx), (3, .int dy), (4, .int dz)] dX1_becomeShifted_1 (by decide) rfl ?_
  refine hs_ws (hs_self ha).symm ?_
  have L3 : ∀ d3 x : Nat, x + d3 = 12 → ∀ (F1 : Nat → Int32), F1 = hx_it (fun x F => hx_it (fun y F => upd F (x * 12 + y) ((hx_sh f2 dx dy dz) x y)) 12 F) x f → hsV Pg l En rX1_becomeShifted Ss Mi Ar Be Me Co QQ 8 D vwCl AA Ss.heap 0 0 3 [(5, .int (nI x)), (0, .ref k), (1, .ref k2), (2, .int dx), (3, .int dy), (4, .int dz)] (ws.set qa (a, .inl (cI, 144, .inl F1))) [] := by
    intro d3
    induction d3 with
    | zero =>
      intro x kq3 F1 e_F1
      obtain rfl : x = 12 := by omega
      refine hv_iload h dX1_becomeShifted_3 0 rfl ?_
      refine hv_bipush h (nI 12) dX1_becomeShifted_5 (by decide) ?_
      refine hv_icmp_ge h 78 dX1_becomeShifted_7 rfl (fun c7 => ?_) (fun hc => absurd (Int32.le_refl _) hc)
      exact hv_vret h hr hlk hQ dX1_becomeShifted_78 (by rw [e_F1]; rfl)
    | succ d3 ih3 =>
      intro x kq3 F1 e_F1
      have hlt3 : x < 12 := by omega
      refine hv_iload h dX1_becomeShifted_3 0 rfl ?_
      refine hv_bipush h (nI 12) dX1_becomeShifted_5 (by decide) ?_
      refine hv_icmp_ge h 78 dX1_becomeShifted_7 rfl (fun hc => absurd hc (nI_ge hlt3 (by decide))) (fun c7 => ?_)
      refine hv_iconst h (nI 0) dX1_becomeShifted_10 (by decide) ?_
      refine hv_istore h [(6, .int (nI 0)), (5, .int (nI x)), (0, .ref k), (1, .ref k2), (2, .int dx), (3, .int dy), (4, .int dz)] dX1_becomeShifted_11 (by decide) rfl ?_
      have L13 : ∀ d13 y : Nat, y + d13 = 12 → ∀ (F2 : Nat → Int32), F2 = hx_it (fun y F => upd F (x * 12 + y) ((hx_sh f2 dx dy dz) x y)) y F1 → hsV Pg l En rX1_becomeShifted Ss Mi Ar Be Me Co QQ 8 D vwCl AA Ss.heap 0 0 13 [(6, .int (nI y)), (5, .int (nI x)), (0, .ref k), (1, .ref k2), (2, .int dx), (3, .int dy), (4, .int dz)] (ws.set qa (a, .inl (cI, 144, .inl F2))) [] := by
        intro d13
        induction d13 with
        | zero =>
          intro y kq13 F2 e_F2
          obtain rfl : y = 12 := by omega
          refine hv_iload h dX1_becomeShifted_13 0 rfl ?_
          refine hv_bipush h (nI 12) dX1_becomeShifted_15 (by decide) ?_
          refine hv_icmp_ge h 72 dX1_becomeShifted_17 rfl (fun c17 => ?_) (fun hc => absurd (Int32.le_refl _) hc)
          refine hv_iinc h (nI (x + 1)) [(5, .int (nI (x + 1))), (6, .int (nI 12)), (0, .ref k), (1, .ref k2), (2, .int dx), (3, .int dy), (4, .int dz)] dX1_becomeShifted_72 1 rfl (hs_inc _) (by decide) rfl ?_
          refine hv_goto h 3 dX1_becomeShifted_75 rfl ?_
          refine hs_pick (lv' := [(5, .int (nI (x + 1))), (0, .ref k), (1, .ref k2), (2, .int dx), (3, .int dy), (4, .int dz)]) [0, 2, 3, 4, 5, 6] rfl ?_
          exact ih3 (x + 1) (by omega) _ (by rw [hx_it_s, ← e_F1]; try first | assumption | with_reducible rfl | (simp [c7, c17]; done))
        | succ d13 ih13 =>
          intro y kq13 F2 e_F2
          have hlt13 : y < 12 := by omega
          refine hv_iload h dX1_becomeShifted_13 0 rfl ?_
          refine hv_bipush h (nI 12) dX1_becomeShifted_15 (by decide) ?_
          refine hv_icmp_ge h 72 dX1_becomeShifted_17 rfl (fun hc => absurd hc (nI_ge hlt13 (by decide))) (fun c17 => ?_)
          refine hv_aload_n h dX1_becomeShifted_20 3 rfl rfl ?_
          refine hv_iload h dX1_becomeShifted_21 1 rfl ?_
          refine hv_iload_n h dX1_becomeShifted_23 4 rfl rfl ?_
          refine hv_isub h dX1_becomeShifted_24 ?_
          refine hv_iload h dX1_becomeShifted_25 0 rfl ?_
          refine hv_iload_n h dX1_becomeShifted_27 5 rfl rfl ?_
          refine hv_isub h dX1_becomeShifted_28 ?_
          refine hv_callp (ws' := (ws.set qa (a, .inl (cI, 144, .inl F2)))) (v := hx_col f2 ((nI x) - dx) ((nI y) - dy)) h (hr_Vi (n := 2) (rest := []) h q2 (hs_oth n2 hk2) rfl (k_X1_column l D cI cC (ws.set qa (a, .inl (cI, 144, .inl F2))) q2 q2a k2 a2 f2 (hs_oth n2 hk2) (hs_oth n2a ha2) ((nI x) - dx) ((nI y) - dy)) w_methodLink_X1_19 w_instanceMethod_X1_column w_selects_X1_column w_initialized_X1 w_code_X1_column (by decide +kernel) rfl rfl rfl ⟨by decide, by decide⟩ rfl (Nat.le_of_ble_eq_true rfl) ⟨Nat.zero_le _, Nat.zero_le _⟩ dX1_becomeShifted_29) ?_
          refine hv_istore h [(7, .int (hx_col f2 ((nI x) - dx) ((nI y) - dy))), (6, .int (nI y)), (5, .int (nI x)), (0, .ref k), (1, .ref k2), (2, .int dx), (3, .int dy), (4, .int dz)] dX1_becomeShifted_32 (by decide) rfl ?_
          refine hv_aload_n h dX1_becomeShifted_34 3 rfl rfl ?_
          refine hv_get (C := RX1) (T := TX1) (N := 1) h q (hs_oth n0 hk) rfl 0 (by decide) wu_X1 w_fieldLink_X1_9 (fun _ h9 => h9) rfl dX1_becomeShifted_35 ?_
          refine hv_iload h dX1_becomeShifted_38 2 rfl ?_
          refine hv_bipush h (12) dX1_becomeShifted_40 (by decide) ?_
          refine hw_imul h (nI (x * 12)) dX1_becomeShifted_42 (pk_mul x 12) ?_
          refine hv_iload h dX1_becomeShifted_43 1 rfl ?_
          refine hw_iadd h (nI ((x * 12) + y)) dX1_becomeShifted_45 (nI_add (x * 12) y) ?_
          refine hv_iload h dX1_becomeShifted_46 7 rfl ?_
          refine hv_if_ge h 60 dX1_becomeShifted_48 rfl (fun c48 => ?_) (fun c48 => ?_)
          · refine hv_iload h dX1_becomeShifted_60 0 rfl ?_
            refine hv_iload h dX1_becomeShifted_62 7 rfl ?_
            refine hv_ishl h dX1_becomeShifted_64 ?_
            refine hv_iast (ws' := (ws.set qa (a, .inl (cI, 144, .inl (upd F2 ((x * 12) + y) ((hx_col f2 ((nI x) - dx) ((nI y) - dy)) <<< (dz &&& 31))))))) h qa 0 (hs_got ha) rfl (vp_in_nI (by omega) (by decide)) dX1_becomeShifted_65 (by rw [nI_clamp (by omega), List.set_set]) ?_
            refine hv_iinc h (nI (y + 1)) [(6, .int (nI (y + 1))), (7, .int (hx_col f2 ((nI x) - dx) ((nI y) - dy))), (5, .int (nI x)), (0, .ref k), (1, .ref k2), (2, .int dx), (3, .int dy), (4, .int dz)] dX1_becomeShifted_66 1 rfl (hs_inc _) (by decide) rfl ?_
            refine hv_goto h 13 dX1_becomeShifted_69 rfl ?_
            refine hs_pick (lv' := [(6, .int (nI (y + 1))), (5, .int (nI x)), (0, .ref k), (1, .ref k2), (2, .int dx), (3, .int dy), (4, .int dz)]) [0, 2, 3, 4, 5, 6, 7] rfl ?_
            exact ih13 (y + 1) (by omega) _ (by rw [hx_it_s, ← e_F2]; try first | assumption | with_reducible rfl | (simp [hx_sh, c7, c17, c48]; done))
          · refine hv_iload h dX1_becomeShifted_51 0 rfl ?_
            refine hv_iload h dX1_becomeShifted_53 7 rfl ?_
            refine hv_ineg h dX1_becomeShifted_55 ?_
            refine hv_ishr h dX1_becomeShifted_56 ?_
            refine hv_goto h 65 dX1_becomeShifted_57 rfl ?_
            refine hv_iast (ws' := (ws.set qa (a, .inl (cI, 144, .inl (upd F2 ((x * 12) + y) ((hx_col f2 ((nI x) - dx) ((nI y) - dy)) >>> ((-dz) &&& 31))))))) h qa 0 (hs_got ha) rfl (vp_in_nI (by omega) (by decide)) dX1_becomeShifted_65 (by rw [nI_clamp (by omega), List.set_set]) ?_
            refine hv_iinc h (nI (y + 1)) [(6, .int (nI (y + 1))), (7, .int (hx_col f2 ((nI x) - dx) ((nI y) - dy))), (5, .int (nI x)), (0, .ref k), (1, .ref k2), (2, .int dx), (3, .int dy), (4, .int dz)] dX1_becomeShifted_66 1 rfl (hs_inc _) (by decide) rfl ?_
            refine hv_goto h 13 dX1_becomeShifted_69 rfl ?_
            refine hs_pick (lv' := [(6, .int (nI (y + 1))), (5, .int (nI x)), (0, .ref k), (1, .ref k2), (2, .int dx), (3, .int dy), (4, .int dz)]) [0, 2, 3, 4, 5, 6, 7] rfl ?_
            exact ih13 (y + 1) (by omega) _ (by rw [hx_it_s, ← e_F2]; try first | assumption | with_reducible rfl | (simp [hx_sh, c7, c17, c48]; done))
      exact L13 12 0 (by omega) _ rfl
  exact L3 12 0 (by omega) _ rfl
end
section
abbrev rX1_becomeSwept : Room := { frames := 2, cells := 0, slots := 0, locals := 42 }
set_option maxHeartbeats 1000000 in
set_option maxRecDepth 100000 in
theorem k_X1_becomeSwept (l : Launch) (D : va_G) (cI cC : ClassId) (ws : va_W) (q qa k a : Nat) (f : Nat → Int32) (hk : ws[q]? = some (k, .inr (hsCi, [.ref a]))) (ha : ws[qa]? = some (a, .inl (cI, 144, .inl f))) (n0 : qa ≠ q) (q2 q2a k2 a2 : Nat) (f2 : Nat → Int32) (hk2 : ws[q2]? = some (k2, .inr (hsCi, [.ref a2]))) (ha2 : ws[q2a]? = some (a2, .inl (cI, 144, .inl f2))) (n2 : qa ≠ q2) (n2a : qa ≠ q2a) (ax : Int32) (w0 : Int32) (b0 : Int32) (b1 : Int32) : hsN l yX1_becomeSwept wsX1_becomeSwept rX1_becomeSwept D vwCl (hsT cI cC) [.ref k, .ref k2, .int ax, .int w0, .int b0, .int b1] ws (fun w => w = (ws.set qa (a, .inl (cI, 144, .inl (hx_fill (hx_sw f2 ax w0 b0 b1) f))))) := by
  refine hsN.enter (cc := cX1_becomeSwept) (maxL := 10) (ret := none) (by decide) rfl (Nat.le_of_ble_eq_true rfl) ?_
  intro Pg En Ss Mi Ar Be Me Co AA QQ hQ h hr hlk
  refine hs_lv (lv' := [(0, .ref k), (1, .ref k2), (2, .int ax), (3, .int w0), (4, .int b0), (5, .int b1)]) rfl ?_
  refine hv_iload h dX1_becomeSwept_0 4 rfl ?_
  refine hv_iload h dX1_becomeSwept_2 5 rfl ?_
  refine hv_callp (ws' := ws) (v := hx_span b0 b1) h (hr_Si (n := 2) (rest := []) h (k_X1_spanOf l D cI cC ws b0 b1) w_methodLink_X1_27 w_static_X1_spanOf w_initialized_X1 w_code_X1_spanOf (by decide +kernel) rfl rfl rfl ⟨by decide, by decide⟩ rfl (Nat.le_of_ble_eq_true rfl) ⟨Nat.zero_le _, Nat.zero_le _⟩ dX1_becomeSwept_4) ?_
  refine hv_istore h [(6, .int (hx_span b0 b1)), (0, .ref k), (1, .ref k2), (2, .int ax), (3, .int w0), (4, .int b0), (5, .int b1)] dX1_becomeSwept_7 (by decide) rfl ?_
  refine hv_iconst h (nI 0) dX1_becomeSwept_9 (by decide) ?_
  refine hv_istore h [(7, .int (nI 0)), (6, .int (hx_span b0 b1)), (0, .ref k), (1, .ref k2), (2, .int ax), (3, .int w0), (4, .int b0), (5, .int b1)] dX1_becomeSwept_10 (by decide) rfl ?_
  refine hs_ws (hs_self ha).symm ?_
  have L12 : ∀ d12 x : Nat, x + d12 = 12 → ∀ (F1 : Nat → Int32), F1 = hx_it (fun x F => hx_it (fun y F => upd F (x * 12 + y) ((hx_sw f2 ax w0 b0 b1) x y)) 12 F) x f → hsV Pg l En rX1_becomeSwept Ss Mi Ar Be Me Co QQ 10 D vwCl AA Ss.heap 0 0 12 [(7, .int (nI x)), (6, .int (hx_span b0 b1)), (0, .ref k), (1, .ref k2), (2, .int ax), (3, .int w0), (4, .int b0), (5, .int b1)] (ws.set qa (a, .inl (cI, 144, .inl F1))) [] := by
    intro d12
    induction d12 with
    | zero =>
      intro x kq12 F1 e_F1
      obtain rfl : x = 12 := by omega
      refine hv_iload h dX1_becomeSwept_12 0 rfl ?_
      refine hv_bipush h (nI 12) dX1_becomeSwept_14 (by decide) ?_
      refine hv_icmp_ge h 149 dX1_becomeSwept_16 rfl (fun c16 => ?_) (fun hc => absurd (Int32.le_refl _) hc)
      exact hv_vret h hr hlk hQ dX1_becomeSwept_149 (by rw [e_F1]; rfl)
    | succ d12 ih12 =>
      intro x kq12 F1 e_F1
      have hlt12 : x < 12 := by omega
      refine hv_iload h dX1_becomeSwept_12 0 rfl ?_
      refine hv_bipush h (nI 12) dX1_becomeSwept_14 (by decide) ?_
      refine hv_icmp_ge h 149 dX1_becomeSwept_16 rfl (fun hc => absurd hc (nI_ge hlt12 (by decide))) (fun c16 => ?_)
      refine hv_iconst h (nI 0) dX1_becomeSwept_19 (by decide) ?_
      refine hv_istore h [(8, .int (nI 0)), (7, .int (nI x)), (6, .int (hx_span b0 b1)), (0, .ref k), (1, .ref k2), (2, .int ax), (3, .int w0), (4, .int b0), (5, .int b1)] dX1_becomeSwept_20 (by decide) rfl ?_
      have L22 : ∀ d22 y : Nat, y + d22 = 12 → ∀ (F2 : Nat → Int32), F2 = hx_it (fun y F => upd F (x * 12 + y) ((hx_sw f2 ax w0 b0 b1) x y)) y F1 → hsV Pg l En rX1_becomeSwept Ss Mi Ar Be Me Co QQ 10 D vwCl AA Ss.heap 0 0 22 [(8, .int (nI y)), (7, .int (nI x)), (6, .int (hx_span b0 b1)), (0, .ref k), (1, .ref k2), (2, .int ax), (3, .int w0), (4, .int b0), (5, .int b1)] (ws.set qa (a, .inl (cI, 144, .inl F2))) [] := by
        intro d22
        induction d22 with
        | zero =>
          intro y kq22 F2 e_F2
          obtain rfl : y = 12 := by omega
          refine hv_iload h dX1_becomeSwept_22 0 rfl ?_
          refine hv_bipush h (nI 12) dX1_becomeSwept_24 (by decide) ?_
          refine hv_icmp_ge h 143 dX1_becomeSwept_26 rfl (fun c26 => ?_) (fun hc => absurd (Int32.le_refl _) hc)
          refine hv_iinc h (nI (x + 1)) [(7, .int (nI (x + 1))), (8, .int (nI 12)), (6, .int (hx_span b0 b1)), (0, .ref k), (1, .ref k2), (2, .int ax), (3, .int w0), (4, .int b0), (5, .int b1)] dX1_becomeSwept_143 1 rfl (hs_inc _) (by decide) rfl ?_
          refine hv_goto h 12 dX1_becomeSwept_146 rfl ?_
          refine hs_pick (lv' := [(7, .int (nI (x + 1))), (6, .int (hx_span b0 b1)), (0, .ref k), (1, .ref k2), (2, .int ax), (3, .int w0), (4, .int b0), (5, .int b1)]) [0, 2, 3, 4, 5, 6, 7, 8] rfl ?_
          exact ih12 (x + 1) (by omega) _ (by rw [hx_it_s, ← e_F1]; try first | assumption | with_reducible rfl | (simp [c16, c26]; done))
        | succ d22 ih22 =>
          intro y kq22 F2 e_F2
          have hlt22 : y < 12 := by omega
          refine hv_iload h dX1_becomeSwept_22 0 rfl ?_
          refine hv_bipush h (nI 12) dX1_becomeSwept_24 (by decide) ?_
          refine hv_icmp_ge h 143 dX1_becomeSwept_26 rfl (fun hc => absurd hc (nI_ge hlt22 (by decide))) (fun c26 => ?_)
          refine hv_iload_n h dX1_becomeSwept_29 5 rfl rfl ?_
          refine hv_if_ne h 63 dX1_becomeSwept_30 rfl (fun c30 => ?_) (fun c30 => ?_)
          · refine hv_iload_n h dX1_becomeSwept_63 5 rfl rfl ?_
            refine hv_iconst h (1) dX1_becomeSwept_64 (by decide) ?_
            refine hv_icmp_ne h 98 dX1_becomeSwept_65 rfl (fun c65 => ?_) (fun c65 => ?_)
            · refine hv_aload_n h dX1_becomeSwept_98 4 rfl rfl ?_
              refine hv_iload h dX1_becomeSwept_99 1 rfl ?_
              refine hv_iload h dX1_becomeSwept_101 0 rfl ?_
              refine hv_callp (ws' := (ws.set qa (a, .inl (cI, 144, .inl F2)))) (v := hx_col f2 (nI x) (nI y)) h (hr_Vi (n := 2) (rest := []) h q2 (hs_oth n2 hk2) rfl (k_X1_column l D cI cC (ws.set qa (a, .inl (cI, 144, .inl F2))) q2 q2a k2 a2 f2 (hs_oth n2 hk2) (hs_oth n2a ha2) (nI x) (nI y)) w_methodLink_X1_19 w_instanceMethod_X1_column w_selects_X1_column w_initialized_X1 w_code_X1_column (by decide +kernel) rfl rfl rfl ⟨by decide, by decide⟩ rfl (Nat.le_of_ble_eq_true rfl) ⟨Nat.zero_le _, Nat.zero_le _⟩ dX1_becomeSwept_103) ?_
              refine hv_iload_n h dX1_becomeSwept_106 6 rfl rfl ?_
              refine hv_ishr h dX1_becomeSwept_107 ?_
              refine hv_iconst h (1) dX1_becomeSwept_108 (by decide) ?_
              refine hv_iand h dX1_becomeSwept_109 ?_
              refine hv_iconst h (1) dX1_becomeSwept_110 (by decide) ?_
              refine hv_icmp_ne h 119 dX1_becomeSwept_111 rfl (fun c111 => ?_) (fun c111 => ?_)
              · refine hv_iconst h (0) dX1_becomeSwept_119 (by decide) ?_
                refine hv_istore h [(9, .int 0), (8, .int (nI y)), (7, .int (nI x)), (6, .int (hx_span b0 b1)), (0, .ref k), (1, .ref k2), (2, .int ax), (3, .int w0), (4, .int b0), (5, .int b1)] dX1_becomeSwept_120 (by decide) rfl ?_
                refine hv_aload_n h dX1_becomeSwept_122 4 rfl rfl ?_
                refine hv_get (C := RX1) (T := TX1) (N := 1) h q (hs_oth n0 hk) rfl 0 (by decide) wu_X1 w_fieldLink_X1_9 (fun _ h9 => h9) rfl dX1_becomeSwept_123 ?_
                refine hv_iload h dX1_becomeSwept_126 2 rfl ?_
                refine hv_bipush h (12) dX1_becomeSwept_128 (by decide) ?_
                refine hw_imul h (nI (x * 12)) dX1_becomeSwept_130 (pk_mul x 12) ?_
                refine hv_iload h dX1_becomeSwept_131 1 rfl ?_
                refine hw_iadd h (nI ((x * 12) + y)) dX1_becomeSwept_133 (nI_add (x * 12) y) ?_
                refine hv_iload h dX1_becomeSwept_134 0 rfl ?_
                refine hv_iast (ws' := (ws.set qa (a, .inl (cI, 144, .inl (upd F2 ((x * 12) + y) 0))))) h qa 0 (hs_got ha) rfl (vp_in_nI (by omega) (by decide)) dX1_becomeSwept_136 (by rw [nI_clamp (by omega), List.set_set]) ?_
                refine hv_iinc h (nI (y + 1)) [(8, .int (nI (y + 1))), (9, .int 0), (7, .int (nI x)), (6, .int (hx_span b0 b1)), (0, .ref k), (1, .ref k2), (2, .int ax), (3, .int w0), (4, .int b0), (5, .int b1)] dX1_becomeSwept_137 1 rfl (hs_inc _) (by decide) rfl ?_
                refine hv_goto h 22 dX1_becomeSwept_140 rfl ?_
                refine hs_pick (lv' := [(8, .int (nI (y + 1))), (7, .int (nI x)), (6, .int (hx_span b0 b1)), (0, .ref k), (1, .ref k2), (2, .int ax), (3, .int w0), (4, .int b0), (5, .int b1)]) [0, 2, 3, 4, 5, 6, 7, 8, 9] rfl ?_
                exact ih22 (y + 1) (by omega) _ (by rw [hx_it_s, ← e_F2]; try first | assumption | with_reducible rfl | (simp [hx_sw, c16, c26, c30, c65, c111]; done))
              · refine hv_iload h dX1_becomeSwept_114 2 rfl ?_
                refine hv_goto h 120 dX1_becomeSwept_116 rfl ?_
                refine hv_istore h [(9, .int (hx_span b0 b1)), (8, .int (nI y)), (7, .int (nI x)), (6, .int (hx_span b0 b1)), (0, .ref k), (1, .ref k2), (2, .int ax), (3, .int w0), (4, .int b0), (5, .int b1)] dX1_becomeSwept_120 (by decide) rfl ?_
                refine hv_aload_n h dX1_becomeSwept_122 4 rfl rfl ?_
                refine hv_get (C := RX1) (T := TX1) (N := 1) h q (hs_oth n0 hk) rfl 0 (by decide) wu_X1 w_fieldLink_X1_9 (fun _ h9 => h9) rfl dX1_becomeSwept_123 ?_
                refine hv_iload h dX1_becomeSwept_126 2 rfl ?_
                refine hv_bipush h (12) dX1_becomeSwept_128 (by decide) ?_
                refine hw_imul h (nI (x * 12)) dX1_becomeSwept_130 (pk_mul x 12) ?_
                refine hv_iload h dX1_becomeSwept_131 1 rfl ?_
                refine hw_iadd h (nI ((x * 12) + y)) dX1_becomeSwept_133 (nI_add (x * 12) y) ?_
                refine hv_iload h dX1_becomeSwept_134 0 rfl ?_
                refine hv_iast (ws' := (ws.set qa (a, .inl (cI, 144, .inl (upd F2 ((x * 12) + y) (hx_span b0 b1)))))) h qa 0 (hs_got ha) rfl (vp_in_nI (by omega) (by decide)) dX1_becomeSwept_136 (by rw [nI_clamp (by omega), List.set_set]) ?_
                refine hv_iinc h (nI (y + 1)) [(8, .int (nI (y + 1))), (9, .int (hx_span b0 b1)), (7, .int (nI x)), (6, .int (hx_span b0 b1)), (0, .ref k), (1, .ref k2), (2, .int ax), (3, .int w0), (4, .int b0), (5, .int b1)] dX1_becomeSwept_137 1 rfl (hs_inc _) (by decide) rfl ?_
                refine hv_goto h 22 dX1_becomeSwept_140 rfl ?_
                refine hs_pick (lv' := [(8, .int (nI (y + 1))), (7, .int (nI x)), (6, .int (hx_span b0 b1)), (0, .ref k), (1, .ref k2), (2, .int ax), (3, .int w0), (4, .int b0), (5, .int b1)]) [0, 2, 3, 4, 5, 6, 7, 8, 9] rfl ?_
                exact ih22 (y + 1) (by omega) _ (by rw [hx_it_s, ← e_F2]; try first | assumption | with_reducible rfl | (simp [hx_sw, c16, c26, c30, c65, c111]; done))
            · refine hv_iload h dX1_becomeSwept_68 0 rfl ?_
              refine hv_iload h dX1_becomeSwept_70 7 rfl ?_
              refine hv_icmp_lt h 92 dX1_becomeSwept_72 rfl (fun c72 => ?_) (fun c72 => ?_)
              · refine hv_iconst h (0) dX1_becomeSwept_92 (by decide) ?_
                refine hv_istore h [(9, .int 0), (8, .int (nI y)), (7, .int (nI x)), (6, .int (hx_span b0 b1)), (0, .ref k), (1, .ref k2), (2, .int ax), (3, .int w0), (4, .int b0), (5, .int b1)] dX1_becomeSwept_93 (by decide) rfl ?_
                refine hv_goto h 122 dX1_becomeSwept_95 rfl ?_
                refine hv_aload_n h dX1_becomeSwept_122 4 rfl rfl ?_
                refine hv_get (C := RX1) (T := TX1) (N := 1) h q (hs_oth n0 hk) rfl 0 (by decide) wu_X1 w_fieldLink_X1_9 (fun _ h9 => h9) rfl dX1_becomeSwept_123 ?_
                refine hv_iload h dX1_becomeSwept_126 2 rfl ?_
                refine hv_bipush h (12) dX1_becomeSwept_128 (by decide) ?_
                refine hw_imul h (nI (x * 12)) dX1_becomeSwept_130 (pk_mul x 12) ?_
                refine hv_iload h dX1_becomeSwept_131 1 rfl ?_
                refine hw_iadd h (nI ((x * 12) + y)) dX1_becomeSwept_133 (nI_add (x * 12) y) ?_
                refine hv_iload h dX1_becomeSwept_134 0 rfl ?_
                refine hv_iast (ws' := (ws.set qa (a, .inl (cI, 144, .inl (upd F2 ((x * 12) + y) 0))))) h qa 0 (hs_got ha) rfl (vp_in_nI (by omega) (by decide)) dX1_becomeSwept_136 (by rw [nI_clamp (by omega), List.set_set]) ?_
                refine hv_iinc h (nI (y + 1)) [(8, .int (nI (y + 1))), (9, .int 0), (7, .int (nI x)), (6, .int (hx_span b0 b1)), (0, .ref k), (1, .ref k2), (2, .int ax), (3, .int w0), (4, .int b0), (5, .int b1)] dX1_becomeSwept_137 1 rfl (hs_inc _) (by decide) rfl ?_
                refine hv_goto h 22 dX1_becomeSwept_140 rfl ?_
                refine hs_pick (lv' := [(8, .int (nI (y + 1))), (7, .int (nI x)), (6, .int (hx_span b0 b1)), (0, .ref k), (1, .ref k2), (2, .int ax), (3, .int w0), (4, .int b0), (5, .int b1)]) [0, 2, 3, 4, 5, 6, 7, 8, 9] rfl ?_
                exact ih22 (y + 1) (by omega) _ (by rw [hx_it_s, ← e_F2]; try first | assumption | with_reducible rfl | (simp [hx_sw, c16, c26, c30, c65, c72]; done))
              · refine hv_iload h dX1_becomeSwept_75 0 rfl ?_
                refine hv_iload h dX1_becomeSwept_77 8 rfl ?_
                refine hv_icmp_gt h 92 dX1_becomeSwept_79 rfl (fun c79 => ?_) (fun c79 => ?_)
                · refine hv_iconst h (0) dX1_becomeSwept_92 (by decide) ?_
                  refine hv_istore h [(9, .int 0), (8, .int (nI y)), (7, .int (nI x)), (6, .int (hx_span b0 b1)), (0, .ref k), (1, .ref k2), (2, .int ax), (3, .int w0), (4, .int b0), (5, .int b1)] dX1_becomeSwept_93 (by decide) rfl ?_
                  refine hv_goto h 122 dX1_becomeSwept_95 rfl ?_
                  refine hv_aload_n h dX1_becomeSwept_122 4 rfl rfl ?_
                  refine hv_get (C := RX1) (T := TX1) (N := 1) h q (hs_oth n0 hk) rfl 0 (by decide) wu_X1 w_fieldLink_X1_9 (fun _ h9 => h9) rfl dX1_becomeSwept_123 ?_
                  refine hv_iload h dX1_becomeSwept_126 2 rfl ?_
                  refine hv_bipush h (12) dX1_becomeSwept_128 (by decide) ?_
                  refine hw_imul h (nI (x * 12)) dX1_becomeSwept_130 (pk_mul x 12) ?_
                  refine hv_iload h dX1_becomeSwept_131 1 rfl ?_
                  refine hw_iadd h (nI ((x * 12) + y)) dX1_becomeSwept_133 (nI_add (x * 12) y) ?_
                  refine hv_iload h dX1_becomeSwept_134 0 rfl ?_
                  refine hv_iast (ws' := (ws.set qa (a, .inl (cI, 144, .inl (upd F2 ((x * 12) + y) 0))))) h qa 0 (hs_got ha) rfl (vp_in_nI (by omega) (by decide)) dX1_becomeSwept_136 (by rw [nI_clamp (by omega), List.set_set]) ?_
                  refine hv_iinc h (nI (y + 1)) [(8, .int (nI (y + 1))), (9, .int 0), (7, .int (nI x)), (6, .int (hx_span b0 b1)), (0, .ref k), (1, .ref k2), (2, .int ax), (3, .int w0), (4, .int b0), (5, .int b1)] dX1_becomeSwept_137 1 rfl (hs_inc _) (by decide) rfl ?_
                  refine hv_goto h 22 dX1_becomeSwept_140 rfl ?_
                  refine hs_pick (lv' := [(8, .int (nI (y + 1))), (7, .int (nI x)), (6, .int (hx_span b0 b1)), (0, .ref k), (1, .ref k2), (2, .int ax), (3, .int w0), (4, .int b0), (5, .int b1)]) [0, 2, 3, 4, 5, 6, 7, 8, 9] rfl ?_
                  exact ih22 (y + 1) (by omega) _ (by rw [hx_it_s, ← e_F2]; try first | assumption | with_reducible rfl | (simp [hx_sw, c16, c26, c30, c65, c72, c79]; done))
                · refine hv_aload_n h dX1_becomeSwept_82 4 rfl rfl ?_
                  refine hv_iload h dX1_becomeSwept_83 1 rfl ?_
                  refine hv_iload_n h dX1_becomeSwept_85 6 rfl rfl ?_
                  refine hv_callp (ws' := (ws.set qa (a, .inl (cI, 144, .inl F2)))) (v := hx_col f2 (nI x) w0) h (hr_Vi (n := 2) (rest := []) h q2 (hs_oth n2 hk2) rfl (k_X1_column l D cI cC (ws.set qa (a, .inl (cI, 144, .inl F2))) q2 q2a k2 a2 f2 (hs_oth n2 hk2) (hs_oth n2a ha2) (nI x) w0) w_methodLink_X1_19 w_instanceMethod_X1_column w_selects_X1_column w_initialized_X1 w_code_X1_column (by decide +kernel) rfl rfl rfl ⟨by decide, by decide⟩ rfl (Nat.le_of_ble_eq_true rfl) ⟨Nat.zero_le _, Nat.zero_le _⟩ dX1_becomeSwept_86) ?_
                  refine hv_goto h 93 dX1_becomeSwept_89 rfl ?_
                  refine hv_istore h [(9, .int (hx_col f2 (nI x) w0)), (8, .int (nI y)), (7, .int (nI x)), (6, .int (hx_span b0 b1)), (0, .ref k), (1, .ref k2), (2, .int ax), (3, .int w0), (4, .int b0), (5, .int b1)] dX1_becomeSwept_93 (by decide) rfl ?_
                  refine hv_goto h 122 dX1_becomeSwept_95 rfl ?_
                  refine hv_aload_n h dX1_becomeSwept_122 4 rfl rfl ?_
                  refine hv_get (C := RX1) (T := TX1) (N := 1) h q (hs_oth n0 hk) rfl 0 (by decide) wu_X1 w_fieldLink_X1_9 (fun _ h9 => h9) rfl dX1_becomeSwept_123 ?_
                  refine hv_iload h dX1_becomeSwept_126 2 rfl ?_
                  refine hv_bipush h (12) dX1_becomeSwept_128 (by decide) ?_
                  refine hw_imul h (nI (x * 12)) dX1_becomeSwept_130 (pk_mul x 12) ?_
                  refine hv_iload h dX1_becomeSwept_131 1 rfl ?_
                  refine hw_iadd h (nI ((x * 12) + y)) dX1_becomeSwept_133 (nI_add (x * 12) y) ?_
                  refine hv_iload h dX1_becomeSwept_134 0 rfl ?_
                  refine hv_iast (ws' := (ws.set qa (a, .inl (cI, 144, .inl (upd F2 ((x * 12) + y) (hx_col f2 (nI x) w0)))))) h qa 0 (hs_got ha) rfl (vp_in_nI (by omega) (by decide)) dX1_becomeSwept_136 (by rw [nI_clamp (by omega), List.set_set]) ?_
                  refine hv_iinc h (nI (y + 1)) [(8, .int (nI (y + 1))), (9, .int (hx_col f2 (nI x) w0)), (7, .int (nI x)), (6, .int (hx_span b0 b1)), (0, .ref k), (1, .ref k2), (2, .int ax), (3, .int w0), (4, .int b0), (5, .int b1)] dX1_becomeSwept_137 1 rfl (hs_inc _) (by decide) rfl ?_
                  refine hv_goto h 22 dX1_becomeSwept_140 rfl ?_
                  refine hs_pick (lv' := [(8, .int (nI (y + 1))), (7, .int (nI x)), (6, .int (hx_span b0 b1)), (0, .ref k), (1, .ref k2), (2, .int ax), (3, .int w0), (4, .int b0), (5, .int b1)]) [0, 2, 3, 4, 5, 6, 7, 8, 9] rfl ?_
                  exact ih22 (y + 1) (by omega) _ (by rw [hx_it_s, ← e_F2]; try first | assumption | with_reducible rfl | (simp [hx_sw, c16, c26, c30, c65, c72, c79]; done))
          · refine hv_iload h dX1_becomeSwept_33 1 rfl ?_
            refine hv_iload h dX1_becomeSwept_35 7 rfl ?_
            refine hv_icmp_lt h 57 dX1_becomeSwept_37 rfl (fun c37 => ?_) (fun c37 => ?_)
            · refine hv_iconst h (0) dX1_becomeSwept_57 (by decide) ?_
              refine hv_istore h [(9, .int 0), (8, .int (nI y)), (7, .int (nI x)), (6, .int (hx_span b0 b1)), (0, .ref k), (1, .ref k2), (2, .int ax), (3, .int w0), (4, .int b0), (5, .int b1)] dX1_becomeSwept_58 (by decide) rfl ?_
              refine hv_goto h 122 dX1_becomeSwept_60 rfl ?_
              refine hv_aload_n h dX1_becomeSwept_122 4 rfl rfl ?_
              refine hv_get (C := RX1) (T := TX1) (N := 1) h q (hs_oth n0 hk) rfl 0 (by decide) wu_X1 w_fieldLink_X1_9 (fun _ h9 => h9) rfl dX1_becomeSwept_123 ?_
              refine hv_iload h dX1_becomeSwept_126 2 rfl ?_
              refine hv_bipush h (12) dX1_becomeSwept_128 (by decide) ?_
              refine hw_imul h (nI (x * 12)) dX1_becomeSwept_130 (pk_mul x 12) ?_
              refine hv_iload h dX1_becomeSwept_131 1 rfl ?_
              refine hw_iadd h (nI ((x * 12) + y)) dX1_becomeSwept_133 (nI_add (x * 12) y) ?_
              refine hv_iload h dX1_becomeSwept_134 0 rfl ?_
              refine hv_iast (ws' := (ws.set qa (a, .inl (cI, 144, .inl (upd F2 ((x * 12) + y) 0))))) h qa 0 (hs_got ha) rfl (vp_in_nI (by omega) (by decide)) dX1_becomeSwept_136 (by rw [nI_clamp (by omega), List.set_set]) ?_
              refine hv_iinc h (nI (y + 1)) [(8, .int (nI (y + 1))), (9, .int 0), (7, .int (nI x)), (6, .int (hx_span b0 b1)), (0, .ref k), (1, .ref k2), (2, .int ax), (3, .int w0), (4, .int b0), (5, .int b1)] dX1_becomeSwept_137 1 rfl (hs_inc _) (by decide) rfl ?_
              refine hv_goto h 22 dX1_becomeSwept_140 rfl ?_
              refine hs_pick (lv' := [(8, .int (nI (y + 1))), (7, .int (nI x)), (6, .int (hx_span b0 b1)), (0, .ref k), (1, .ref k2), (2, .int ax), (3, .int w0), (4, .int b0), (5, .int b1)]) [0, 2, 3, 4, 5, 6, 7, 8, 9] rfl ?_
              exact ih22 (y + 1) (by omega) _ (by rw [hx_it_s, ← e_F2]; try first | assumption | with_reducible rfl | (simp [hx_sw, c16, c26, c30, c37]; done))
            · refine hv_iload h dX1_becomeSwept_40 1 rfl ?_
              refine hv_iload h dX1_becomeSwept_42 8 rfl ?_
              refine hv_icmp_gt h 57 dX1_becomeSwept_44 rfl (fun c44 => ?_) (fun c44 => ?_)
              · refine hv_iconst h (0) dX1_becomeSwept_57 (by decide) ?_
                refine hv_istore h [(9, .int 0), (8, .int (nI y)), (7, .int (nI x)), (6, .int (hx_span b0 b1)), (0, .ref k), (1, .ref k2), (2, .int ax), (3, .int w0), (4, .int b0), (5, .int b1)] dX1_becomeSwept_58 (by decide) rfl ?_
                refine hv_goto h 122 dX1_becomeSwept_60 rfl ?_
                refine hv_aload_n h dX1_becomeSwept_122 4 rfl rfl ?_
                refine hv_get (C := RX1) (T := TX1) (N := 1) h q (hs_oth n0 hk) rfl 0 (by decide) wu_X1 w_fieldLink_X1_9 (fun _ h9 => h9) rfl dX1_becomeSwept_123 ?_
                refine hv_iload h dX1_becomeSwept_126 2 rfl ?_
                refine hv_bipush h (12) dX1_becomeSwept_128 (by decide) ?_
                refine hw_imul h (nI (x * 12)) dX1_becomeSwept_130 (pk_mul x 12) ?_
                refine hv_iload h dX1_becomeSwept_131 1 rfl ?_
                refine hw_iadd h (nI ((x * 12) + y)) dX1_becomeSwept_133 (nI_add (x * 12) y) ?_
                refine hv_iload h dX1_becomeSwept_134 0 rfl ?_
                refine hv_iast (ws' := (ws.set qa (a, .inl (cI, 144, .inl (upd F2 ((x * 12) + y) 0))))) h qa 0 (hs_got ha) rfl (vp_in_nI (by omega) (by decide)) dX1_becomeSwept_136 (by rw [nI_clamp (by omega), List.set_set]) ?_
                refine hv_iinc h (nI (y + 1)) [(8, .int (nI (y + 1))), (9, .int 0), (7, .int (nI x)), (6, .int (hx_span b0 b1)), (0, .ref k), (1, .ref k2), (2, .int ax), (3, .int w0), (4, .int b0), (5, .int b1)] dX1_becomeSwept_137 1 rfl (hs_inc _) (by decide) rfl ?_
                refine hv_goto h 22 dX1_becomeSwept_140 rfl ?_
                refine hs_pick (lv' := [(8, .int (nI (y + 1))), (7, .int (nI x)), (6, .int (hx_span b0 b1)), (0, .ref k), (1, .ref k2), (2, .int ax), (3, .int w0), (4, .int b0), (5, .int b1)]) [0, 2, 3, 4, 5, 6, 7, 8, 9] rfl ?_
                exact ih22 (y + 1) (by omega) _ (by rw [hx_it_s, ← e_F2]; try first | assumption | with_reducible rfl | (simp [hx_sw, c16, c26, c30, c37, c44]; done))
              · refine hv_aload_n h dX1_becomeSwept_47 4 rfl rfl ?_
                refine hv_iload_n h dX1_becomeSwept_48 6 rfl rfl ?_
                refine hv_iload h dX1_becomeSwept_49 0 rfl ?_
                refine hv_callp (ws' := (ws.set qa (a, .inl (cI, 144, .inl F2)))) (v := hx_col f2 w0 (nI y)) h (hr_Vi (n := 2) (rest := []) h q2 (hs_oth n2 hk2) rfl (k_X1_column l D cI cC (ws.set qa (a, .inl (cI, 144, .inl F2))) q2 q2a k2 a2 f2 (hs_oth n2 hk2) (hs_oth n2a ha2) w0 (nI y)) w_methodLink_X1_19 w_instanceMethod_X1_column w_selects_X1_column w_initialized_X1 w_code_X1_column (by decide +kernel) rfl rfl rfl ⟨by decide, by decide⟩ rfl (Nat.le_of_ble_eq_true rfl) ⟨Nat.zero_le _, Nat.zero_le _⟩ dX1_becomeSwept_51) ?_
                refine hv_goto h 58 dX1_becomeSwept_54 rfl ?_
                refine hv_istore h [(9, .int (hx_col f2 w0 (nI y))), (8, .int (nI y)), (7, .int (nI x)), (6, .int (hx_span b0 b1)), (0, .ref k), (1, .ref k2), (2, .int ax), (3, .int w0), (4, .int b0), (5, .int b1)] dX1_becomeSwept_58 (by decide) rfl ?_
                refine hv_goto h 122 dX1_becomeSwept_60 rfl ?_
                refine hv_aload_n h dX1_becomeSwept_122 4 rfl rfl ?_
                refine hv_get (C := RX1) (T := TX1) (N := 1) h q (hs_oth n0 hk) rfl 0 (by decide) wu_X1 w_fieldLink_X1_9 (fun _ h9 => h9) rfl dX1_becomeSwept_123 ?_
                refine hv_iload h dX1_becomeSwept_126 2 rfl ?_
                refine hv_bipush h (12) dX1_becomeSwept_128 (by decide) ?_
                refine hw_imul h (nI (x * 12)) dX1_becomeSwept_130 (pk_mul x 12) ?_
                refine hv_iload h dX1_becomeSwept_131 1 rfl ?_
                refine hw_iadd h (nI ((x * 12) + y)) dX1_becomeSwept_133 (nI_add (x * 12) y) ?_
                refine hv_iload h dX1_becomeSwept_134 0 rfl ?_
                refine hv_iast (ws' := (ws.set qa (a, .inl (cI, 144, .inl (upd F2 ((x * 12) + y) (hx_col f2 w0 (nI y))))))) h qa 0 (hs_got ha) rfl (vp_in_nI (by omega) (by decide)) dX1_becomeSwept_136 (by rw [nI_clamp (by omega), List.set_set]) ?_
                refine hv_iinc h (nI (y + 1)) [(8, .int (nI (y + 1))), (9, .int (hx_col f2 w0 (nI y))), (7, .int (nI x)), (6, .int (hx_span b0 b1)), (0, .ref k), (1, .ref k2), (2, .int ax), (3, .int w0), (4, .int b0), (5, .int b1)] dX1_becomeSwept_137 1 rfl (hs_inc _) (by decide) rfl ?_
                refine hv_goto h 22 dX1_becomeSwept_140 rfl ?_
                refine hs_pick (lv' := [(8, .int (nI (y + 1))), (7, .int (nI x)), (6, .int (hx_span b0 b1)), (0, .ref k), (1, .ref k2), (2, .int ax), (3, .int w0), (4, .int b0), (5, .int b1)]) [0, 2, 3, 4, 5, 6, 7, 8, 9] rfl ?_
                exact ih22 (y + 1) (by omega) _ (by rw [hx_it_s, ← e_F2]; try first | assumption | with_reducible rfl | (simp [hx_sw, c16, c26, c30, c37, c44]; done))
      exact L22 12 0 (by omega) _ rfl
  exact L12 12 0 (by omega) _ rfl
end
