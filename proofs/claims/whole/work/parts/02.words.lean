set_option maxRecDepth 100000 in
theorem w_initialized_XL : Cond.initialized RXL ∈ hsAll := hs_in 23 (by decide +kernel) (by decide +kernel)
set_option maxRecDepth 100000 in
theorem w_initialized_X0 : Cond.initialized RX0 ∈ hsAll := hs_in 24 (by decide +kernel) (by decide +kernel)
set_option maxRecDepth 100000 in
theorem w_initialized_X1 : Cond.initialized RX1 ∈ hsAll := hs_in 25 (by decide +kernel) (by decide +kernel)
set_option maxRecDepth 100000 in
theorem w_initialized_X2 : Cond.initialized RX2 ∈ hsAll := hs_in 26 (by decide +kernel) (by decide +kernel)
set_option maxRecDepth 100000 in
theorem w_initialized_X3 : Cond.initialized RX3 ∈ hsAll := hs_in 27 (by decide +kernel) (by decide +kernel)
set_option maxRecDepth 100000 in
theorem w_initialized_X4 : Cond.initialized RX4 ∈ hsAll := hs_in 28 (by decide +kernel) (by decide +kernel)
set_option maxRecDepth 100000 in
theorem w_initialized_X5 : Cond.initialized RX5 ∈ hsAll := hs_in 29 (by decide +kernel) (by decide +kernel)
set_option maxRecDepth 100000 in
theorem w_classLink_XL_7 : Cond.classLink RXL 7 RX0 ∈ hsAll := hs_in 30 (by decide +kernel) (by decide +kernel)
set_option maxRecDepth 100000 in
theorem w_instantiable_X0 : Cond.instantiable RX0 5 ∈ hsAll := hs_in 31 (by decide +kernel) (by decide +kernel)
set_option maxRecDepth 100000 in
theorem w_methodLink_XL_9 : Cond.methodLink RXL 9 yX0_init ∈ hsAll := hs_in 32 (by decide +kernel) (by decide +kernel)
set_option maxRecDepth 100000 in
theorem w_instanceMethod_X0_init : Cond.instanceMethod yX0_init ∈ hsAll := hs_in 33 (by decide +kernel) (by decide +kernel)
set_option maxRecDepth 100000 in
theorem w_code_X0_init : Cond.code yX0_init cX0_init 2 none ∈ hsAll := hs_in 34 (by decide +kernel) (by decide +kernel)
set_option maxRecDepth 100000 in
theorem w_methodLink_X0_3 : Cond.methodLink RX0 3 objectInit ∈ hsAll := hs_in 35 (by decide +kernel) (by decide +kernel)
set_option maxRecDepth 100000 in
theorem w_classLink_X0_9 : Cond.classLink RX0 9 RX1 ∈ hsAll := hs_in 38 (by decide +kernel) (by decide +kernel)
set_option maxRecDepth 100000 in
theorem w_instantiable_X1 : Cond.instantiable RX1 1 ∈ hsAll := hs_in 40 (by decide +kernel) (by decide +kernel)
set_option maxRecDepth 100000 in
theorem w_methodLink_X0_15 : Cond.methodLink RX0 15 yX1_init ∈ hsAll := hs_in 41 (by decide +kernel) (by decide +kernel)
set_option maxRecDepth 100000 in
theorem w_instanceMethod_X1_init : Cond.instanceMethod yX1_init ∈ hsAll := hs_in 42 (by decide +kernel) (by decide +kernel)
set_option maxRecDepth 100000 in
theorem w_code_X1_init : Cond.code yX1_init cX1_init 1 none ∈ hsAll := hs_in 43 (by decide +kernel) (by decide +kernel)
set_option maxRecDepth 100000 in
theorem w_methodLink_X1_3 : Cond.methodLink RX1 3 objectInit ∈ hsAll := hs_in 44 (by decide +kernel) (by decide +kernel)
set_option maxRecDepth 100000 in
theorem w_fieldLink_X1_9 : Cond.fieldLink RX1 9 "HewnSolids$Cells" "columns" "[I" ∈ hsAll := hs_in 45 (by decide +kernel) (by decide +kernel)
set_option maxRecDepth 100000 in
theorem w_arrayClass : Cond.arrayClass .int ∈ hsAll := hs_in 50 (by decide +kernel) (by decide +kernel)
set_option maxRecDepth 100000 in
theorem w_classLink_X0_16 : Cond.classLink RX0 16 RX2 ∈ hsAll := hs_in 51 (by decide +kernel) (by decide +kernel)
set_option maxRecDepth 100000 in
theorem w_instantiable_X2 : Cond.instantiable RX2 5 ∈ hsAll := hs_in 52 (by decide +kernel) (by decide +kernel)
set_option maxRecDepth 100000 in
theorem w_methodLink_X0_18 : Cond.methodLink RX0 18 yX2_init ∈ hsAll := hs_in 53 (by decide +kernel) (by decide +kernel)
set_option maxRecDepth 100000 in
theorem w_instanceMethod_X2_init : Cond.instanceMethod yX2_init ∈ hsAll := hs_in 54 (by decide +kernel) (by decide +kernel)
set_option maxRecDepth 100000 in
theorem w_code_X2_init : Cond.code yX2_init cX2_init 2 none ∈ hsAll := hs_in 55 (by decide +kernel) (by decide +kernel)
set_option maxRecDepth 100000 in
theorem w_methodLink_X2_3 : Cond.methodLink RX2 3 objectInit ∈ hsAll := hs_in 56 (by decide +kernel) (by decide +kernel)
set_option maxRecDepth 100000 in
theorem w_classLink_X2_15 : Cond.classLink RX2 15 RX1 ∈ hsAll := hs_in 57 (by decide +kernel) (by decide +kernel)
set_option maxRecDepth 100000 in
theorem w_methodLink_X2_21 : Cond.methodLink RX2 21 yX1_init ∈ hsAll := hs_in 58 (by decide +kernel) (by decide +kernel)
set_option maxRecDepth 100000 in
theorem w_fieldLink_X2_9 : Cond.fieldLink RX2 9 "HewnSolids$Steps" "numbers" "[I" ∈ hsAll := hs_in 59 (by decide +kernel) (by decide +kernel)
set_option maxRecDepth 100000 in
theorem w_fieldLink_X2_17 : Cond.fieldLink RX2 17 "HewnSolids$Steps" "others" "[LHewnSolids$Cells;" ∈ hsAll := hs_in 60 (by decide +kernel) (by decide +kernel)
set_option maxRecDepth 100000 in
theorem w_fieldLink_X2_26 : Cond.fieldLink RX2 26 "HewnSolids$Steps" "oldest" "I" ∈ hsAll := hs_in 61 (by decide +kernel) (by decide +kernel)
set_option maxRecDepth 100000 in
theorem w_fieldLink_X2_22 : Cond.fieldLink RX2 22 "HewnSolids$Steps" "done" "I" ∈ hsAll := hs_in 62 (by decide +kernel) (by decide +kernel)
set_option maxRecDepth 100000 in
theorem w_fieldLink_X2_29 : Cond.fieldLink RX2 29 "HewnSolids$Steps" "takenBack" "I" ∈ hsAll := hs_in 63 (by decide +kernel) (by decide +kernel)
set_option maxRecDepth 100000 in
theorem w_classLink_X0_27 : Cond.classLink RX0 27 RX3 ∈ hsAll := hs_in 75 (by decide +kernel) (by decide +kernel)
set_option maxRecDepth 100000 in
theorem w_instantiable_X3 : Cond.instantiable RX3 3 ∈ hsAll := hs_in 76 (by decide +kernel) (by decide +kernel)
set_option maxRecDepth 100000 in
theorem w_methodLink_X0_29 : Cond.methodLink RX0 29 yX3_init ∈ hsAll := hs_in 77 (by decide +kernel) (by decide +kernel)
set_option maxRecDepth 100000 in
theorem w_instanceMethod_X3_init : Cond.instanceMethod yX3_init ∈ hsAll := hs_in 78 (by decide +kernel) (by decide +kernel)
set_option maxRecDepth 100000 in
theorem w_code_X3_init : Cond.code yX3_init cX3_init 1 none ∈ hsAll := hs_in 79 (by decide +kernel) (by decide +kernel)
set_option maxRecDepth 100000 in
theorem w_methodLink_X3_3 : Cond.methodLink RX3 3 objectInit ∈ hsAll := hs_in 80 (by decide +kernel) (by decide +kernel)
set_option maxRecDepth 100000 in
theorem w_fieldLink_X3_9 : Cond.fieldLink RX3 9 "HewnSolids$Flood" "left" "[I" ∈ hsAll := hs_in 81 (by decide +kernel) (by decide +kernel)
set_option maxRecDepth 100000 in
theorem w_fieldLink_X3_15 : Cond.fieldLink RX3 15 "HewnSolids$Flood" "taken" "[I" ∈ hsAll := hs_in 82 (by decide +kernel) (by decide +kernel)
set_option maxRecDepth 100000 in
theorem w_fieldLink_X3_30 : Cond.fieldLink RX3 30 "HewnSolids$Flood" "end" "I" ∈ hsAll := hs_in 83 (by decide +kernel) (by decide +kernel)
set_option maxRecDepth 100000 in
theorem w_fieldLink_X0_11 : Cond.fieldLink RX0 11 "HewnSolids" "solids" "[LHewnSolids$Cells;" ∈ hsAll := hs_in 91 (by decide +kernel) (by decide +kernel)
set_option maxRecDepth 100000 in
theorem w_fieldLink_X0_19 : Cond.fieldLink RX0 19 "HewnSolids" "steps" "LHewnSolids$Steps;" ∈ hsAll := hs_in 92 (by decide +kernel) (by decide +kernel)
set_option maxRecDepth 100000 in
theorem w_fieldLink_X0_23 : Cond.fieldLink RX0 23 "HewnSolids" "view" "LHewnSolids$Cells;" ∈ hsAll := hs_in 93 (by decide +kernel) (by decide +kernel)
set_option maxRecDepth 100000 in
theorem w_fieldLink_X0_30 : Cond.fieldLink RX0 30 "HewnSolids" "flood" "LHewnSolids$Flood;" ∈ hsAll := hs_in 94 (by decide +kernel) (by decide +kernel)
set_option maxRecDepth 100000 in
theorem w_fieldLink_X0_34 : Cond.fieldLink RX0 34 "HewnSolids" "outcome" "LHewnSolids$Cells;" ∈ hsAll := hs_in 95 (by decide +kernel) (by decide +kernel)
set_option maxRecDepth 100000 in
theorem w_methodLink_XL_13 : Cond.methodLink RXL 13 yX0_box ∈ hsAll := hs_in 107 (by decide +kernel) (by decide +kernel)
set_option maxRecDepth 100000 in
theorem w_instanceMethod_X0_box : Cond.instanceMethod yX0_box ∈ hsAll := hs_in 108 (by decide +kernel) (by decide +kernel)
set_option maxRecDepth 100000 in
theorem w_code_X0_box : Cond.code yX0_box cX0_box 8 (some .int) ∈ hsAll := hs_in 110 (by decide +kernel) (by decide +kernel)
set_option maxRecDepth 100000 in
theorem w_methodLink_X0_37 : Cond.methodLink RX0 37 yX0_isSolid ∈ hsAll := hs_in 111 (by decide +kernel) (by decide +kernel)
set_option maxRecDepth 100000 in
theorem w_static_X0_isSolid : Cond.static yX0_isSolid ∈ hsAll := hs_in 112 (by decide +kernel) (by decide +kernel)
set_option maxRecDepth 100000 in
theorem w_code_X0_isSolid : Cond.code yX0_isSolid cX0_isSolid 1 (some .boolean) ∈ hsAll := hs_in 113 (by decide +kernel) (by decide +kernel)
set_option maxRecDepth 100000 in
theorem w_methodLink_X0_41 : Cond.methodLink RX0 41 yX0_isStretch ∈ hsAll := hs_in 114 (by decide +kernel) (by decide +kernel)
set_option maxRecDepth 100000 in
theorem w_static_X0_isStretch : Cond.static yX0_isStretch ∈ hsAll := hs_in 115 (by decide +kernel) (by decide +kernel)
set_option maxRecDepth 100000 in
theorem w_code_X0_isStretch : Cond.code yX0_isStretch cX0_isStretch 2 (some .boolean) ∈ hsAll := hs_in 116 (by decide +kernel) (by decide +kernel)
set_option maxRecDepth 100000 in
theorem w_methodLink_X0_75 : Cond.methodLink RX0 75 yX0_isCoordinate ∈ hsAll := hs_in 117 (by decide +kernel) (by decide +kernel)
set_option maxRecDepth 100000 in
theorem w_static_X0_isCoordinate : Cond.static yX0_isCoordinate ∈ hsAll := hs_in 118 (by decide +kernel) (by decide +kernel)
set_option maxRecDepth 100000 in
theorem w_code_X0_isCoordinate : Cond.code yX0_isCoordinate cX0_isCoordinate 1 (some .boolean) ∈ hsAll := hs_in 119 (by decide +kernel) (by decide +kernel)
set_option maxRecDepth 100000 in
theorem w_methodLink_X0_45 : Cond.methodLink RX0 45 yX1_becomeBox ∈ hsAll := hs_in 120 (by decide +kernel) (by decide +kernel)
set_option maxRecDepth 100000 in
theorem w_instanceMethod_X1_becomeBox : Cond.instanceMethod yX1_becomeBox ∈ hsAll := hs_in 121 (by decide +kernel) (by decide +kernel)
set_option maxRecDepth 100000 in
theorem w_code_X1_becomeBox : Cond.code yX1_becomeBox cX1_becomeBox 11 none ∈ hsAll := hs_in 123 (by decide +kernel) (by decide +kernel)
set_option maxRecDepth 100000 in
theorem w_methodLink_X1_27 : Cond.methodLink RX1 27 yX1_spanOf ∈ hsAll := hs_in 124 (by decide +kernel) (by decide +kernel)
set_option maxRecDepth 100000 in
theorem w_static_X1_spanOf : Cond.static yX1_spanOf ∈ hsAll := hs_in 125 (by decide +kernel) (by decide +kernel)
set_option maxRecDepth 100000 in
theorem w_code_X1_spanOf : Cond.code yX1_spanOf cX1_spanOf 2 (some .int) ∈ hsAll := hs_in 126 (by decide +kernel) (by decide +kernel)
set_option maxRecDepth 100000 in
theorem w_methodLink_X0_49 : Cond.methodLink RX0 49 yX0_takeStep ∈ hsAll := hs_in 127 (by decide +kernel) (by decide +kernel)
set_option maxRecDepth 100000 in
theorem w_instanceMethod_X0_takeStep : Cond.instanceMethod yX0_takeStep ∈ hsAll := hs_in 129 (by decide +kernel) (by decide +kernel)
set_option maxRecDepth 100000 in
theorem w_code_X0_takeStep : Cond.code yX0_takeStep cX0_takeStep 3 (some .int) ∈ hsAll := hs_in 130 (by decide +kernel) (by decide +kernel)
set_option maxRecDepth 100000 in
theorem w_methodLink_X0_148 : Cond.methodLink RX0 148 yX2_keep ∈ hsAll := hs_in 131 (by decide +kernel) (by decide +kernel)
set_option maxRecDepth 100000 in
theorem w_instanceMethod_X2_keep : Cond.instanceMethod yX2_keep ∈ hsAll := hs_in 132 (by decide +kernel) (by decide +kernel)
set_option maxRecDepth 100000 in
theorem w_code_X2_keep : Cond.code yX2_keep cX2_keep 5 (some (.object "HewnSolids$Cells")) ∈ hsAll := hs_in 134 (by decide +kernel) (by decide +kernel)
set_option maxRecDepth 100000 in
theorem w_methodLink_X0_89 : Cond.methodLink RX0 89 yX1_countCells ∈ hsAll := hs_in 135 (by decide +kernel) (by decide +kernel)
set_option maxRecDepth 100000 in
theorem w_instanceMethod_X1_countCells : Cond.instanceMethod yX1_countCells ∈ hsAll := hs_in 136 (by decide +kernel) (by decide +kernel)
set_option maxRecDepth 100000 in
theorem w_code_X1_countCells : Cond.code yX1_countCells cX1_countCells 3 (some .int) ∈ hsAll := hs_in 138 (by decide +kernel) (by decide +kernel)
set_option maxRecDepth 100000 in
theorem w_methodLink_X1_40 : Cond.methodLink RX1 40 yX5_bitCount ∈ hsAll := hs_in 139 (by decide +kernel) (by decide +kernel)
set_option maxRecDepth 100000 in
theorem w_static_X5_bitCount : Cond.static yX5_bitCount ∈ hsAll := hs_in 140 (by decide +kernel) (by decide +kernel)
set_option maxRecDepth 100000 in
theorem w_code_X5_bitCount : Cond.code yX5_bitCount cX5_bitCount 1 (some .int) ∈ hsAll := hs_in 141 (by decide +kernel) (by decide +kernel)
set_option maxRecDepth 100000 in
theorem w_constant_X5_265 : Cond.constant RX5 265 (1431655765) ∈ hsAll := hs_in 142 (by decide +kernel) (by decide +kernel)
set_option maxRecDepth 100000 in
theorem w_constant_X5_266 : Cond.constant RX5 266 (858993459) ∈ hsAll := hs_in 143 (by decide +kernel) (by decide +kernel)
set_option maxRecDepth 100000 in
theorem w_constant_X5_267 : Cond.constant RX5 267 (252645135) ∈ hsAll := hs_in 144 (by decide +kernel) (by decide +kernel)
set_option maxRecDepth 100000 in
theorem w_methodLink_XL_18 : Cond.methodLink RXL 18 yX0_join ∈ hsAll := hs_in 145 (by decide +kernel) (by decide +kernel)
set_option maxRecDepth 100000 in
theorem w_instanceMethod_X0_join : Cond.instanceMethod yX0_join ∈ hsAll := hs_in 146 (by decide +kernel) (by decide +kernel)
set_option maxRecDepth 100000 in
theorem w_code_X0_join : Cond.code yX0_join cX0_join 5 (some .int) ∈ hsAll := hs_in 148 (by decide +kernel) (by decide +kernel)
set_option maxRecDepth 100000 in
theorem w_methodLink_X0_53 : Cond.methodLink RX0 53 yX1_becomeJoined ∈ hsAll := hs_in 149 (by decide +kernel) (by decide +kernel)
set_option maxRecDepth 100000 in
theorem w_instanceMethod_X1_becomeJoined : Cond.instanceMethod yX1_becomeJoined ∈ hsAll := hs_in 150 (by decide +kernel) (by decide +kernel)
set_option maxRecDepth 100000 in
theorem w_code_X1_becomeJoined : Cond.code yX1_becomeJoined cX1_becomeJoined 5 none ∈ hsAll := hs_in 152 (by decide +kernel) (by decide +kernel)
set_option maxRecDepth 100000 in
theorem w_methodLink_X1_30 : Cond.methodLink RX1 30 yX1_joined ∈ hsAll := hs_in 153 (by decide +kernel) (by decide +kernel)
set_option maxRecDepth 100000 in
theorem w_static_X1_joined : Cond.static yX1_joined ∈ hsAll := hs_in 154 (by decide +kernel) (by decide +kernel)
set_option maxRecDepth 100000 in
theorem w_code_X1_joined : Cond.code yX1_joined cX1_joined 3 (some .int) ∈ hsAll := hs_in 155 (by decide +kernel) (by decide +kernel)
set_option maxRecDepth 100000 in
theorem w_methodLink_XL_23 : Cond.methodLink RXL 23 yX0_turn ∈ hsAll := hs_in 156 (by decide +kernel) (by decide +kernel)
set_option maxRecDepth 100000 in
theorem w_instanceMethod_X0_turn : Cond.instanceMethod yX0_turn ∈ hsAll := hs_in 157 (by decide +kernel) (by decide +kernel)
set_option maxRecDepth 100000 in
theorem w_code_X0_turn : Cond.code yX0_turn cX0_turn 3 (some .int) ∈ hsAll := hs_in 159 (by decide +kernel) (by decide +kernel)
set_option maxRecDepth 100000 in
theorem w_methodLink_X0_57 : Cond.methodLink RX0 57 yX0_isAxis ∈ hsAll := hs_in 160 (by decide +kernel) (by decide +kernel)
set_option maxRecDepth 100000 in
theorem w_static_X0_isAxis : Cond.static yX0_isAxis ∈ hsAll := hs_in 161 (by decide +kernel) (by decide +kernel)
set_option maxRecDepth 100000 in
theorem w_code_X0_isAxis : Cond.code yX0_isAxis cX0_isAxis 1 (some .boolean) ∈ hsAll := hs_in 162 (by decide +kernel) (by decide +kernel)
set_option maxRecDepth 100000 in
theorem w_methodLink_X0_60 : Cond.methodLink RX0 60 yX1_becomeTurned ∈ hsAll := hs_in 163 (by decide +kernel) (by decide +kernel)
set_option maxRecDepth 100000 in
theorem w_instanceMethod_X1_becomeTurned : Cond.instanceMethod yX1_becomeTurned ∈ hsAll := hs_in 164 (by decide +kernel) (by decide +kernel)
set_option maxRecDepth 100000 in
theorem w_code_X1_becomeTurned : Cond.code yX1_becomeTurned cX1_becomeTurned 5 none ∈ hsAll := hs_in 166 (by decide +kernel) (by decide +kernel)
set_option maxRecDepth 100000 in
theorem w_methodLink_X1_33 : Cond.methodLink RX1 33 yX1_turnedColumn ∈ hsAll := hs_in 167 (by decide +kernel) (by decide +kernel)
set_option maxRecDepth 100000 in
theorem w_static_X1_turnedColumn : Cond.static yX1_turnedColumn ∈ hsAll := hs_in 168 (by decide +kernel) (by decide +kernel)
set_option maxRecDepth 100000 in
theorem w_code_X1_turnedColumn : Cond.code yX1_turnedColumn cX1_turnedColumn 4 (some .int) ∈ hsAll := hs_in 169 (by decide +kernel) (by decide +kernel)
set_option maxRecDepth 100000 in
theorem w_methodLink_X1_23 : Cond.methodLink RX1 23 yX1_columnAlong ∈ hsAll := hs_in 170 (by decide +kernel) (by decide +kernel)
set_option maxRecDepth 100000 in
theorem w_instanceMethod_X1_columnAlong : Cond.instanceMethod yX1_columnAlong ∈ hsAll := hs_in 171 (by decide +kernel) (by decide +kernel)
set_option maxRecDepth 100000 in
theorem w_code_X1_columnAlong : Cond.code yX1_columnAlong cX1_columnAlong 7 (some .int) ∈ hsAll := hs_in 173 (by decide +kernel) (by decide +kernel)
set_option maxRecDepth 100000 in
theorem w_methodLink_X1_19 : Cond.methodLink RX1 19 yX1_column ∈ hsAll := hs_in 174 (by decide +kernel) (by decide +kernel)
set_option maxRecDepth 100000 in
theorem w_instanceMethod_X1_column : Cond.instanceMethod yX1_column ∈ hsAll := hs_in 175 (by decide +kernel) (by decide +kernel)
set_option maxRecDepth 100000 in
theorem w_code_X1_column : Cond.code yX1_column cX1_column 3 (some .int) ∈ hsAll := hs_in 177 (by decide +kernel) (by decide +kernel)
set_option maxRecDepth 100000 in
theorem w_methodLink_X1_59 : Cond.methodLink RX1 59 yX1_reversed ∈ hsAll := hs_in 179 (by decide +kernel) (by decide +kernel)
set_option maxRecDepth 100000 in
theorem w_static_X1_reversed : Cond.static yX1_reversed ∈ hsAll := hs_in 180 (by decide +kernel) (by decide +kernel)
set_option maxRecDepth 100000 in
theorem w_code_X1_reversed : Cond.code yX1_reversed cX1_reversed 1 (some .int) ∈ hsAll := hs_in 181 (by decide +kernel) (by decide +kernel)
set_option maxRecDepth 100000 in
theorem w_methodLink_X1_62 : Cond.methodLink RX1 62 yX5_reverse ∈ hsAll := hs_in 182 (by decide +kernel) (by decide +kernel)
set_option maxRecDepth 100000 in
theorem w_static_X5_reverse : Cond.static yX5_reverse ∈ hsAll := hs_in 183 (by decide +kernel) (by decide +kernel)
set_option maxRecDepth 100000 in
theorem w_code_X5_reverse : Cond.code yX5_reverse cX5_reverse 1 (some .int) ∈ hsAll := hs_in 184 (by decide +kernel) (by decide +kernel)
set_option maxRecDepth 100000 in
theorem w_methodLink_X5_268 : Cond.methodLink RX5 268 yX5_reverseBytes ∈ hsAll := hs_in 185 (by decide +kernel) (by decide +kernel)
set_option maxRecDepth 100000 in
theorem w_static_X5_reverseBytes : Cond.static yX5_reverseBytes ∈ hsAll := hs_in 186 (by decide +kernel) (by decide +kernel)
set_option maxRecDepth 100000 in
theorem w_code_X5_reverseBytes : Cond.code yX5_reverseBytes cX5_reverseBytes 1 (some .int) ∈ hsAll := hs_in 187 (by decide +kernel) (by decide +kernel)
set_option maxRecDepth 100000 in
theorem w_constant_X5_274 : Cond.constant RX5 274 (65280) ∈ hsAll := hs_in 188 (by decide +kernel) (by decide +kernel)
set_option maxRecDepth 100000 in
theorem w_methodLink_XL_28 : Cond.methodLink RXL 28 yX0_mirror ∈ hsAll := hs_in 189 (by decide +kernel) (by decide +kernel)
set_option maxRecDepth 100000 in
theorem w_instanceMethod_X0_mirror : Cond.instanceMethod yX0_mirror ∈ hsAll := hs_in 190 (by decide +kernel) (by decide +kernel)
set_option maxRecDepth 100000 in
theorem w_code_X0_mirror : Cond.code yX0_mirror cX0_mirror 3 (some .int) ∈ hsAll := hs_in 192 (by decide +kernel) (by decide +kernel)
set_option maxRecDepth 100000 in
theorem w_methodLink_X0_64 : Cond.methodLink RX0 64 yX1_becomeMirrored ∈ hsAll := hs_in 193 (by decide +kernel) (by decide +kernel)
set_option maxRecDepth 100000 in
theorem w_instanceMethod_X1_becomeMirrored : Cond.instanceMethod yX1_becomeMirrored ∈ hsAll := hs_in 194 (by decide +kernel) (by decide +kernel)
set_option maxRecDepth 100000 in
theorem w_code_X1_becomeMirrored : Cond.code yX1_becomeMirrored cX1_becomeMirrored 5 none ∈ hsAll := hs_in 196 (by decide +kernel) (by decide +kernel)
set_option maxRecDepth 100000 in
theorem w_methodLink_X1_37 : Cond.methodLink RX1 37 yX1_mirroredColumn ∈ hsAll := hs_in 197 (by decide +kernel) (by decide +kernel)
set_option maxRecDepth 100000 in
theorem w_static_X1_mirroredColumn : Cond.static yX1_mirroredColumn ∈ hsAll := hs_in 198 (by decide +kernel) (by decide +kernel)
set_option maxRecDepth 100000 in
theorem w_code_X1_mirroredColumn : Cond.code yX1_mirroredColumn cX1_mirroredColumn 4 (some .int) ∈ hsAll := hs_in 199 (by decide +kernel) (by decide +kernel)
set_option maxRecDepth 100000 in
theorem w_methodLink_XL_32 : Cond.methodLink RXL 32 yX0_shift ∈ hsAll := hs_in 200 (by decide +kernel) (by decide +kernel)
set_option maxRecDepth 100000 in
theorem w_instanceMethod_X0_shift : Cond.instanceMethod yX0_shift ∈ hsAll := hs_in 201 (by decide +kernel) (by decide +kernel)
set_option maxRecDepth 100000 in
theorem w_code_X0_shift : Cond.code yX0_shift cX0_shift 6 (some .int) ∈ hsAll := hs_in 203 (by decide +kernel) (by decide +kernel)
set_option maxRecDepth 100000 in
theorem w_methodLink_X0_67 : Cond.methodLink RX0 67 yX0_wouldLeave ∈ hsAll := hs_in 204 (by decide +kernel) (by decide +kernel)
set_option maxRecDepth 100000 in
theorem w_static_X0_wouldLeave : Cond.static yX0_wouldLeave ∈ hsAll := hs_in 205 (by decide +kernel) (by decide +kernel)
set_option maxRecDepth 100000 in
theorem w_code_X0_wouldLeave : Cond.code yX0_wouldLeave cX0_wouldLeave 4 (some .boolean) ∈ hsAll := hs_in 206 (by decide +kernel) (by decide +kernel)
set_option maxRecDepth 100000 in
theorem w_methodLink_X0_110 : Cond.methodLink RX0 110 yX1_leastAlong ∈ hsAll := hs_in 207 (by decide +kernel) (by decide +kernel)
set_option maxRecDepth 100000 in
theorem w_instanceMethod_X1_leastAlong : Cond.instanceMethod yX1_leastAlong ∈ hsAll := hs_in 208 (by decide +kernel) (by decide +kernel)
set_option maxRecDepth 100000 in
theorem w_code_X1_leastAlong : Cond.code yX1_leastAlong cX1_leastAlong 3 (some .int) ∈ hsAll := hs_in 210 (by decide +kernel) (by decide +kernel)
set_option maxRecDepth 100000 in
theorem w_methodLink_X1_46 : Cond.methodLink RX1 46 yX1_countLayer ∈ hsAll := hs_in 211 (by decide +kernel) (by decide +kernel)
set_option maxRecDepth 100000 in
theorem w_instanceMethod_X1_countLayer : Cond.instanceMethod yX1_countLayer ∈ hsAll := hs_in 212 (by decide +kernel) (by decide +kernel)
set_option maxRecDepth 100000 in
theorem w_code_X1_countLayer : Cond.code yX1_countLayer cX1_countLayer 5 (some .int) ∈ hsAll := hs_in 214 (by decide +kernel) (by decide +kernel)
set_option maxRecDepth 100000 in
theorem w_methodLink_X0_113 : Cond.methodLink RX0 113 yX1_greatestAlong ∈ hsAll := hs_in 215 (by decide +kernel) (by decide +kernel)
set_option maxRecDepth 100000 in
theorem w_instanceMethod_X1_greatestAlong : Cond.instanceMethod yX1_greatestAlong ∈ hsAll := hs_in 216 (by decide +kernel) (by decide +kernel)
set_option maxRecDepth 100000 in
theorem w_code_X1_greatestAlong : Cond.code yX1_greatestAlong cX1_greatestAlong 3 (some .int) ∈ hsAll := hs_in 218 (by decide +kernel) (by decide +kernel)
set_option maxRecDepth 100000 in
theorem w_methodLink_X0_71 : Cond.methodLink RX0 71 yX1_becomeShifted ∈ hsAll := hs_in 219 (by decide +kernel) (by decide +kernel)
set_option maxRecDepth 100000 in
theorem w_instanceMethod_X1_becomeShifted : Cond.instanceMethod yX1_becomeShifted ∈ hsAll := hs_in 220 (by decide +kernel) (by decide +kernel)
set_option maxRecDepth 100000 in
theorem w_code_X1_becomeShifted : Cond.code yX1_becomeShifted cX1_becomeShifted 8 none ∈ hsAll := hs_in 222 (by decide +kernel) (by decide +kernel)
set_option maxRecDepth 100000 in
theorem w_methodLink_XL_36 : Cond.methodLink RXL 36 yX0_sweep ∈ hsAll := hs_in 223 (by decide +kernel) (by decide +kernel)
set_option maxRecDepth 100000 in
theorem w_instanceMethod_X0_sweep : Cond.instanceMethod yX0_sweep ∈ hsAll := hs_in 224 (by decide +kernel) (by decide +kernel)
set_option maxRecDepth 100000 in
theorem w_code_X0_sweep : Cond.code yX0_sweep cX0_sweep 7 (some .int) ∈ hsAll := hs_in 226 (by decide +kernel) (by decide +kernel)
set_option maxRecDepth 100000 in
theorem w_methodLink_X0_78 : Cond.methodLink RX0 78 yX1_becomeSwept ∈ hsAll := hs_in 227 (by decide +kernel) (by decide +kernel)
set_option maxRecDepth 100000 in
theorem w_instanceMethod_X1_becomeSwept : Cond.instanceMethod yX1_becomeSwept ∈ hsAll := hs_in 228 (by decide +kernel) (by decide +kernel)
set_option maxRecDepth 100000 in
theorem w_code_X1_becomeSwept : Cond.code yX1_becomeSwept cX1_becomeSwept 10 none ∈ hsAll := hs_in 230 (by decide +kernel) (by decide +kernel)
set_option maxRecDepth 100000 in
theorem w_methodLink_XL_41 : Cond.methodLink RXL 41 yX0_undo ∈ hsAll := hs_in 231 (by decide +kernel) (by decide +kernel)
set_option maxRecDepth 100000 in
theorem w_instanceMethod_X0_undo : Cond.instanceMethod yX0_undo ∈ hsAll := hs_in 232 (by decide +kernel) (by decide +kernel)
set_option maxRecDepth 100000 in
theorem w_code_X0_undo : Cond.code yX0_undo cX0_undo 1 (some .int) ∈ hsAll := hs_in 234 (by decide +kernel) (by decide +kernel)
set_option maxRecDepth 100000 in
theorem w_methodLink_X0_82 : Cond.methodLink RX0 82 yX2_takeBack ∈ hsAll := hs_in 235 (by decide +kernel) (by decide +kernel)
set_option maxRecDepth 100000 in
theorem w_instanceMethod_X2_takeBack : Cond.instanceMethod yX2_takeBack ∈ hsAll := hs_in 236 (by decide +kernel) (by decide +kernel)
set_option maxRecDepth 100000 in
theorem w_code_X2_takeBack : Cond.code yX2_takeBack cX2_takeBack 2 (some .int) ∈ hsAll := hs_in 238 (by decide +kernel) (by decide +kernel)
set_option maxRecDepth 100000 in
theorem w_methodLink_X2_32 : Cond.methodLink RX2 32 yX2_exchange ∈ hsAll := hs_in 239 (by decide +kernel) (by decide +kernel)
set_option maxRecDepth 100000 in
theorem w_instanceMethod_X2_exchange : Cond.instanceMethod yX2_exchange ∈ hsAll := hs_in 241 (by decide +kernel) (by decide +kernel)
set_option maxRecDepth 100000 in
theorem w_code_X2_exchange : Cond.code yX2_exchange cX2_exchange 5 (some .int) ∈ hsAll := hs_in 242 (by decide +kernel) (by decide +kernel)
set_option maxRecDepth 100000 in
theorem w_methodLink_XL_46 : Cond.methodLink RXL 46 yX0_redo ∈ hsAll := hs_in 243 (by decide +kernel) (by decide +kernel)
set_option maxRecDepth 100000 in
theorem w_instanceMethod_X0_redo : Cond.instanceMethod yX0_redo ∈ hsAll := hs_in 244 (by decide +kernel) (by decide +kernel)
set_option maxRecDepth 100000 in
theorem w_code_X0_redo : Cond.code yX0_redo cX0_redo 1 (some .int) ∈ hsAll := hs_in 246 (by decide +kernel) (by decide +kernel)
set_option maxRecDepth 100000 in
theorem w_methodLink_X0_86 : Cond.methodLink RX0 86 yX2_doAgain ∈ hsAll := hs_in 247 (by decide +kernel) (by decide +kernel)
set_option maxRecDepth 100000 in
theorem w_instanceMethod_X2_doAgain : Cond.instanceMethod yX2_doAgain ∈ hsAll := hs_in 248 (by decide +kernel) (by decide +kernel)
set_option maxRecDepth 100000 in
theorem w_code_X2_doAgain : Cond.code yX2_doAgain cX2_doAgain 3 (some .int) ∈ hsAll := hs_in 250 (by decide +kernel) (by decide +kernel)
set_option maxRecDepth 100000 in
theorem w_methodLink_XL_50 : Cond.methodLink RXL 50 yX0_volume ∈ hsAll := hs_in 251 (by decide +kernel) (by decide +kernel)
set_option maxRecDepth 100000 in
theorem w_instanceMethod_X0_volume : Cond.instanceMethod yX0_volume ∈ hsAll := hs_in 252 (by decide +kernel) (by decide +kernel)
set_option maxRecDepth 100000 in
theorem w_code_X0_volume : Cond.code yX0_volume cX0_volume 2 (some .int) ∈ hsAll := hs_in 254 (by decide +kernel) (by decide +kernel)
set_option maxRecDepth 100000 in
theorem w_methodLink_XL_55 : Cond.methodLink RXL 55 yX0_sides ∈ hsAll := hs_in 255 (by decide +kernel) (by decide +kernel)
set_option maxRecDepth 100000 in
theorem w_instanceMethod_X0_sides : Cond.instanceMethod yX0_sides ∈ hsAll := hs_in 256 (by decide +kernel) (by decide +kernel)
set_option maxRecDepth 100000 in
theorem w_code_X0_sides : Cond.code yX0_sides cX0_sides 2 (some .int) ∈ hsAll := hs_in 258 (by decide +kernel) (by decide +kernel)
set_option maxRecDepth 100000 in
theorem w_methodLink_X0_93 : Cond.methodLink RX0 93 yX1_countSides ∈ hsAll := hs_in 259 (by decide +kernel) (by decide +kernel)
set_option maxRecDepth 100000 in
theorem w_instanceMethod_X1_countSides : Cond.instanceMethod yX1_countSides ∈ hsAll := hs_in 260 (by decide +kernel) (by decide +kernel)
set_option maxRecDepth 100000 in
theorem w_code_X1_countSides : Cond.code yX1_countSides cX1_countSides 5 (some .int) ∈ hsAll := hs_in 262 (by decide +kernel) (by decide +kernel)
set_option maxRecDepth 100000 in
theorem w_methodLink_XL_59 : Cond.methodLink RXL 59 yX0_edges ∈ hsAll := hs_in 263 (by decide +kernel) (by decide +kernel)
set_option maxRecDepth 100000 in
theorem w_instanceMethod_X0_edges : Cond.instanceMethod yX0_edges ∈ hsAll := hs_in 264 (by decide +kernel) (by decide +kernel)
set_option maxRecDepth 100000 in
theorem w_code_X0_edges : Cond.code yX0_edges cX0_edges 2 (some .int) ∈ hsAll := hs_in 266 (by decide +kernel) (by decide +kernel)
set_option maxRecDepth 100000 in
theorem w_methodLink_X0_96 : Cond.methodLink RX0 96 yX1_countEdges ∈ hsAll := hs_in 267 (by decide +kernel) (by decide +kernel)
set_option maxRecDepth 100000 in
theorem w_instanceMethod_X1_countEdges : Cond.instanceMethod yX1_countEdges ∈ hsAll := hs_in 268 (by decide +kernel) (by decide +kernel)
set_option maxRecDepth 100000 in
theorem w_code_X1_countEdges : Cond.code yX1_countEdges cX1_countEdges 8 (some .int) ∈ hsAll := hs_in 270 (by decide +kernel) (by decide +kernel)
set_option maxRecDepth 100000 in
theorem w_static_X0_edgesBetween : Cond.static yX0_edgesBetween ∈ hsAll := hs_in 272 (by decide +kernel) (by decide +kernel)
set_option maxRecDepth 100000 in
theorem w_code_X0_edgesBetween : Cond.code yX0_edgesBetween cX0_edgesBetween 2 (some .int) ∈ hsAll := hs_in 273 (by decide +kernel) (by decide +kernel)
set_option maxRecDepth 100000 in
theorem w_methodLink_X0_163 : Cond.methodLink RX0 163 yX0_edgesAmong ∈ hsAll := hs_in 274 (by decide +kernel) (by decide +kernel)
set_option maxRecDepth 100000 in
theorem w_static_X0_edgesAmong : Cond.static yX0_edgesAmong ∈ hsAll := hs_in 275 (by decide +kernel) (by decide +kernel)
set_option maxRecDepth 100000 in
theorem w_code_X0_edgesAmong : Cond.code yX0_edgesAmong cX0_edgesAmong 4 (some .int) ∈ hsAll := hs_in 276 (by decide +kernel) (by decide +kernel)
set_option maxRecDepth 100000 in
theorem w_methodLink_XL_63 : Cond.methodLink RXL 63 yX0_pieces ∈ hsAll := hs_in 278 (by decide +kernel) (by decide +kernel)
set_option maxRecDepth 100000 in
theorem w_instanceMethod_X0_pieces : Cond.instanceMethod yX0_pieces ∈ hsAll := hs_in 279 (by decide +kernel) (by decide +kernel)
set_option maxRecDepth 100000 in
theorem w_code_X0_pieces : Cond.code yX0_pieces cX0_pieces 2 (some .int) ∈ hsAll := hs_in 281 (by decide +kernel) (by decide +kernel)
set_option maxRecDepth 100000 in
theorem w_methodLink_X0_99 : Cond.methodLink RX0 99 yX3_countPieces ∈ hsAll := hs_in 282 (by decide +kernel) (by decide +kernel)
set_option maxRecDepth 100000 in
theorem w_instanceMethod_X3_countPieces : Cond.instanceMethod yX3_countPieces ∈ hsAll := hs_in 283 (by decide +kernel) (by decide +kernel)
set_option maxRecDepth 100000 in
theorem w_code_X3_countPieces : Cond.code yX3_countPieces cX3_countPieces 3 (some .int) ∈ hsAll := hs_in 285 (by decide +kernel) (by decide +kernel)
set_option maxRecDepth 100000 in
theorem w_methodLink_X3_23 : Cond.methodLink RX3 23 yX3_countLeft ∈ hsAll := hs_in 286 (by decide +kernel) (by decide +kernel)
set_option maxRecDepth 100000 in
theorem w_instanceMethod_X3_countLeft : Cond.instanceMethod yX3_countLeft ∈ hsAll := hs_in 288 (by decide +kernel) (by decide +kernel)
set_option maxRecDepth 100000 in
theorem w_code_X3_countLeft : Cond.code yX3_countLeft cX3_countLeft 4 (some .int) ∈ hsAll := hs_in 289 (by decide +kernel) (by decide +kernel)
set_option maxRecDepth 100000 in
theorem w_methodLink_X3_41 : Cond.methodLink RX3 41 yX3_countFrom ∈ hsAll := hs_in 290 (by decide +kernel) (by decide +kernel)
set_option maxRecDepth 100000 in
theorem w_instanceMethod_X3_countFrom : Cond.instanceMethod yX3_countFrom ∈ hsAll := hs_in 292 (by decide +kernel) (by decide +kernel)
set_option maxRecDepth 100000 in
theorem w_code_X3_countFrom : Cond.code yX3_countFrom cX3_countFrom 5 (some .int) ∈ hsAll := hs_in 293 (by decide +kernel) (by decide +kernel)
set_option maxRecDepth 100000 in
theorem w_methodLink_X3_34 : Cond.methodLink RX3 34 yX3_take ∈ hsAll := hs_in 294 (by decide +kernel) (by decide +kernel)
set_option maxRecDepth 100000 in
theorem w_instanceMethod_X3_take : Cond.instanceMethod yX3_take ∈ hsAll := hs_in 296 (by decide +kernel) (by decide +kernel)
set_option maxRecDepth 100000 in
theorem w_code_X3_take : Cond.code yX3_take cX3_take 6 none ∈ hsAll := hs_in 297 (by decide +kernel) (by decide +kernel)
set_option maxRecDepth 100000 in
theorem w_methodLink_X3_38 : Cond.methodLink RX3 38 yX3_spread ∈ hsAll := hs_in 299 (by decide +kernel) (by decide +kernel)
set_option maxRecDepth 100000 in
theorem w_instanceMethod_X3_spread : Cond.instanceMethod yX3_spread ∈ hsAll := hs_in 301 (by decide +kernel) (by decide +kernel)
set_option maxRecDepth 100000 in
theorem w_code_X3_spread : Cond.code yX3_spread cX3_spread 6 none ∈ hsAll := hs_in 302 (by decide +kernel) (by decide +kernel)
set_option maxRecDepth 100000 in
theorem w_methodLink_XL_67 : Cond.methodLink RXL 67 yX0_hollows ∈ hsAll := hs_in 303 (by decide +kernel) (by decide +kernel)
set_option maxRecDepth 100000 in
theorem w_instanceMethod_X0_hollows : Cond.instanceMethod yX0_hollows ∈ hsAll := hs_in 304 (by decide +kernel) (by decide +kernel)
set_option maxRecDepth 100000 in
theorem w_code_X0_hollows : Cond.code yX0_hollows cX0_hollows 2 (some .int) ∈ hsAll := hs_in 306 (by decide +kernel) (by decide +kernel)
set_option maxRecDepth 100000 in
theorem w_methodLink_X0_103 : Cond.methodLink RX0 103 yX3_countHollows ∈ hsAll := hs_in 307 (by decide +kernel) (by decide +kernel)
set_option maxRecDepth 100000 in
theorem w_instanceMethod_X3_countHollows : Cond.instanceMethod yX3_countHollows ∈ hsAll := hs_in 308 (by decide +kernel) (by decide +kernel)
set_option maxRecDepth 100000 in
theorem w_code_X3_countHollows : Cond.code yX3_countHollows cX3_countHollows 3 (some .int) ∈ hsAll := hs_in 310 (by decide +kernel) (by decide +kernel)
set_option maxRecDepth 100000 in
theorem w_methodLink_X3_27 : Cond.methodLink RX3 27 yX3_dropFromBorder ∈ hsAll := hs_in 311 (by decide +kernel) (by decide +kernel)
set_option maxRecDepth 100000 in
theorem w_instanceMethod_X3_dropFromBorder : Cond.instanceMethod yX3_dropFromBorder ∈ hsAll := hs_in 313 (by decide +kernel) (by decide +kernel)
set_option maxRecDepth 100000 in
theorem w_code_X3_dropFromBorder : Cond.code yX3_dropFromBorder cX3_dropFromBorder 4 none ∈ hsAll := hs_in 314 (by decide +kernel) (by decide +kernel)
set_option maxRecDepth 100000 in
theorem w_methodLink_XL_71 : Cond.methodLink RXL 71 yX0_moment ∈ hsAll := hs_in 315 (by decide +kernel) (by decide +kernel)
set_option maxRecDepth 100000 in
theorem w_instanceMethod_X0_moment : Cond.instanceMethod yX0_moment ∈ hsAll := hs_in 316 (by decide +kernel) (by decide +kernel)
set_option maxRecDepth 100000 in
theorem w_code_X0_moment : Cond.code yX0_moment cX0_moment 5 (some .int) ∈ hsAll := hs_in 318 (by decide +kernel) (by decide +kernel)
set_option maxRecDepth 100000 in
theorem w_methodLink_X0_106 : Cond.methodLink RX0 106 yX1_countLayer ∈ hsAll := hs_in 319 (by decide +kernel) (by decide +kernel)
set_option maxRecDepth 100000 in
theorem w_methodLink_XL_75 : Cond.methodLink RXL 75 yX0_extent ∈ hsAll := hs_in 320 (by decide +kernel) (by decide +kernel)
set_option maxRecDepth 100000 in
theorem w_instanceMethod_X0_extent : Cond.instanceMethod yX0_extent ∈ hsAll := hs_in 321 (by decide +kernel) (by decide +kernel)
set_option maxRecDepth 100000 in
theorem w_code_X0_extent : Cond.code yX0_extent cX0_extent 4 (some .int) ∈ hsAll := hs_in 323 (by decide +kernel) (by decide +kernel)
set_option maxRecDepth 100000 in
theorem w_methodLink_XL_80 : Cond.methodLink RXL 80 yX0_inside ∈ hsAll := hs_in 324 (by decide +kernel) (by decide +kernel)
set_option maxRecDepth 100000 in
theorem w_instanceMethod_X0_inside : Cond.instanceMethod yX0_inside ∈ hsAll := hs_in 325 (by decide +kernel) (by decide +kernel)
set_option maxRecDepth 100000 in
theorem w_code_X0_inside : Cond.code yX0_inside cX0_inside 6 (some .int) ∈ hsAll := hs_in 327 (by decide +kernel) (by decide +kernel)
set_option maxRecDepth 100000 in
theorem w_methodLink_X0_116 : Cond.methodLink RX0 116 yX0_isPlane ∈ hsAll := hs_in 328 (by decide +kernel) (by decide +kernel)
set_option maxRecDepth 100000 in
theorem w_static_X0_isPlane : Cond.static yX0_isPlane ∈ hsAll := hs_in 329 (by decide +kernel) (by decide +kernel)
set_option maxRecDepth 100000 in
theorem w_code_X0_isPlane : Cond.code yX0_isPlane cX0_isPlane 1 (some .boolean) ∈ hsAll := hs_in 330 (by decide +kernel) (by decide +kernel)
set_option maxRecDepth 100000 in
theorem w_methodLink_X0_119 : Cond.methodLink RX0 119 yX1_countAround ∈ hsAll := hs_in 331 (by decide +kernel) (by decide +kernel)
set_option maxRecDepth 100000 in
theorem w_instanceMethod_X1_countAround : Cond.instanceMethod yX1_countAround ∈ hsAll := hs_in 332 (by decide +kernel) (by decide +kernel)
set_option maxRecDepth 100000 in
theorem w_code_X1_countAround : Cond.code yX1_countAround cX1_countAround 4 (some .int) ∈ hsAll := hs_in 334 (by decide +kernel) (by decide +kernel)
set_option maxRecDepth 100000 in
theorem w_methodLink_X1_56 : Cond.methodLink RX1 56 yX1_countPair ∈ hsAll := hs_in 335 (by decide +kernel) (by decide +kernel)
set_option maxRecDepth 100000 in
theorem w_instanceMethod_X1_countPair : Cond.instanceMethod yX1_countPair ∈ hsAll := hs_in 337 (by decide +kernel) (by decide +kernel)
set_option maxRecDepth 100000 in
theorem w_code_X1_countPair : Cond.code yX1_countPair cX1_countPair 4 (some .int) ∈ hsAll := hs_in 338 (by decide +kernel) (by decide +kernel)
set_option maxRecDepth 100000 in
theorem w_methodLink_XL_84 : Cond.methodLink RXL 84 yX0_section ∈ hsAll := hs_in 339 (by decide +kernel) (by decide +kernel)
set_option maxRecDepth 100000 in
theorem w_instanceMethod_X0_section : Cond.instanceMethod yX0_section ∈ hsAll := hs_in 340 (by decide +kernel) (by decide +kernel)
set_option maxRecDepth 100000 in
theorem w_code_X0_section : Cond.code yX0_section cX0_section 4 (some .int) ∈ hsAll := hs_in 342 (by decide +kernel) (by decide +kernel)
set_option maxRecDepth 100000 in
theorem w_methodLink_XL_88 : Cond.methodLink RXL 88 yX0_same ∈ hsAll := hs_in 343 (by decide +kernel) (by decide +kernel)
set_option maxRecDepth 100000 in
theorem w_instanceMethod_X0_same : Cond.instanceMethod yX0_same ∈ hsAll := hs_in 344 (by decide +kernel) (by decide +kernel)
set_option maxRecDepth 100000 in
theorem w_code_X0_same : Cond.code yX0_same cX0_same 3 (some .boolean) ∈ hsAll := hs_in 346 (by decide +kernel) (by decide +kernel)
set_option maxRecDepth 100000 in
theorem w_methodLink_X0_123 : Cond.methodLink RX0 123 yX1_hasCellsOf ∈ hsAll := hs_in 347 (by decide +kernel) (by decide +kernel)
set_option maxRecDepth 100000 in
theorem w_instanceMethod_X1_hasCellsOf : Cond.instanceMethod yX1_hasCellsOf ∈ hsAll := hs_in 348 (by decide +kernel) (by decide +kernel)
set_option maxRecDepth 100000 in
theorem w_code_X1_hasCellsOf : Cond.code yX1_hasCellsOf cX1_hasCellsOf 3 (some .boolean) ∈ hsAll := hs_in 350 (by decide +kernel) (by decide +kernel)
set_option maxRecDepth 100000 in
theorem w_methodLink_XL_93 : Cond.methodLink RXL 93 yX0_depth ∈ hsAll := hs_in 351 (by decide +kernel) (by decide +kernel)
set_option maxRecDepth 100000 in
theorem w_instanceMethod_X0_depth : Cond.instanceMethod yX0_depth ∈ hsAll := hs_in 352 (by decide +kernel) (by decide +kernel)
set_option maxRecDepth 100000 in
theorem w_code_X0_depth : Cond.code yX0_depth cX0_depth 6 (some .int) ∈ hsAll := hs_in 354 (by decide +kernel) (by decide +kernel)
set_option maxRecDepth 100000 in
theorem w_methodLink_X0_127 : Cond.methodLink RX0 127 yX1_columnAlong ∈ hsAll := hs_in 355 (by decide +kernel) (by decide +kernel)
set_option maxRecDepth 100000 in
theorem w_methodLink_X0_130 : Cond.methodLink RX0 130 yX0_depthOf ∈ hsAll := hs_in 356 (by decide +kernel) (by decide +kernel)
set_option maxRecDepth 100000 in
theorem w_static_X0_depthOf : Cond.static yX0_depthOf ∈ hsAll := hs_in 357 (by decide +kernel) (by decide +kernel)
set_option maxRecDepth 100000 in
theorem w_code_X0_depthOf : Cond.code yX0_depthOf cX0_depthOf 2 (some .int) ∈ hsAll := hs_in 358 (by decide +kernel) (by decide +kernel)
set_option maxRecDepth 100000 in
theorem w_methodLink_X0_152 : Cond.methodLink RX0 152 yX5_numberOfLeadingZeros ∈ hsAll := hs_in 359 (by decide +kernel) (by decide +kernel)
set_option maxRecDepth 100000 in
theorem w_static_X5_numberOfLeadingZeros : Cond.static yX5_numberOfLeadingZeros ∈ hsAll := hs_in 360 (by decide +kernel) (by decide +kernel)
set_option maxRecDepth 100000 in
theorem w_code_X5_numberOfLeadingZeros : Cond.code yX5_numberOfLeadingZeros cX5_numberOfLeadingZeros 2 (some .int) ∈ hsAll := hs_in 361 (by decide +kernel) (by decide +kernel)
set_option maxRecDepth 100000 in
theorem w_constant_X5_264 : Cond.constant RX5 264 (65536) ∈ hsAll := hs_in 362 (by decide +kernel) (by decide +kernel)
set_option maxRecDepth 100000 in
theorem w_methodLink_X0_157 : Cond.methodLink RX0 157 yX5_numberOfTrailingZeros ∈ hsAll := hs_in 363 (by decide +kernel) (by decide +kernel)
set_option maxRecDepth 100000 in
theorem w_static_X5_numberOfTrailingZeros : Cond.static yX5_numberOfTrailingZeros ∈ hsAll := hs_in 364 (by decide +kernel) (by decide +kernel)
set_option maxRecDepth 100000 in
theorem w_code_X5_numberOfTrailingZeros : Cond.code yX5_numberOfTrailingZeros cX5_numberOfTrailingZeros 2 (some .int) ∈ hsAll := hs_in 365 (by decide +kernel) (by decide +kernel)
set_option maxRecDepth 100000 in
theorem w_methodLink_XL_98 : Cond.methodLink RXL 98 yX0_stroke ∈ hsAll := hs_in 366 (by decide +kernel) (by decide +kernel)
set_option maxRecDepth 100000 in
theorem w_instanceMethod_X0_stroke : Cond.instanceMethod yX0_stroke ∈ hsAll := hs_in 367 (by decide +kernel) (by decide +kernel)
set_option maxRecDepth 100000 in
theorem w_code_X0_stroke : Cond.code yX0_stroke cX0_stroke 8 (some .int) ∈ hsAll := hs_in 369 (by decide +kernel) (by decide +kernel)
set_option maxRecDepth 100000 in
theorem w_methodLink_X0_134 : Cond.methodLink RX0 134 yX0_isStrokePlace ∈ hsAll := hs_in 370 (by decide +kernel) (by decide +kernel)
set_option maxRecDepth 100000 in
theorem w_static_X0_isStrokePlace : Cond.static yX0_isStrokePlace ∈ hsAll := hs_in 371 (by decide +kernel) (by decide +kernel)
set_option maxRecDepth 100000 in
theorem w_code_X0_isStrokePlace : Cond.code yX0_isStrokePlace cX0_isStrokePlace 3 (some .boolean) ∈ hsAll := hs_in 372 (by decide +kernel) (by decide +kernel)
set_option maxRecDepth 100000 in
theorem w_methodLink_X0_138 : Cond.methodLink RX0 138 yX0_strokeBetween ∈ hsAll := hs_in 373 (by decide +kernel) (by decide +kernel)
set_option maxRecDepth 100000 in
theorem w_static_X0_strokeBetween : Cond.static yX0_strokeBetween ∈ hsAll := hs_in 374 (by decide +kernel) (by decide +kernel)
set_option maxRecDepth 100000 in
theorem w_code_X0_strokeBetween : Cond.code yX0_strokeBetween cX0_strokeBetween 3 (some .int) ∈ hsAll := hs_in 375 (by decide +kernel) (by decide +kernel)
set_option maxRecDepth 100000 in
theorem w_methodLink_X0_160 : Cond.methodLink RX0 160 yX0_edgesBetween ∈ hsAll := hs_in 376 (by decide +kernel) (by decide +kernel)
set_option maxRecDepth 100000 in
theorem w_methodLink_XL_103 : Cond.methodLink RXL 103 yX0_strokes ∈ hsAll := hs_in 377 (by decide +kernel) (by decide +kernel)
set_option maxRecDepth 100000 in
theorem w_instanceMethod_X0_strokes : Cond.instanceMethod yX0_strokes ∈ hsAll := hs_in 378 (by decide +kernel) (by decide +kernel)
set_option maxRecDepth 100000 in
theorem w_code_X0_strokes : Cond.code yX0_strokes cX0_strokes 9 (some .int) ∈ hsAll := hs_in 380 (by decide +kernel) (by decide +kernel)
set_option maxRecDepth 100000 in
theorem w_methodLink_X0_142 : Cond.methodLink RX0 142 yX1_becomeView ∈ hsAll := hs_in 381 (by decide +kernel) (by decide +kernel)
set_option maxRecDepth 100000 in
theorem w_instanceMethod_X1_becomeView : Cond.instanceMethod yX1_becomeView ∈ hsAll := hs_in 382 (by decide +kernel) (by decide +kernel)
set_option maxRecDepth 100000 in
theorem w_code_X1_becomeView : Cond.code yX1_becomeView cX1_becomeView 5 none ∈ hsAll := hs_in 384 (by decide +kernel) (by decide +kernel)
set_option maxRecDepth 100000 in
theorem w_methodLink_X0_145 : Cond.methodLink RX0 145 yX1_column ∈ hsAll := hs_in 385 (by decide +kernel) (by decide +kernel)
set_option maxRecDepth 100000 in
theorem w_classLink_XL_10 : Cond.classLink RXL 10 RX4 ∈ hsAll := hs_in 386 (by decide +kernel) (by decide +kernel)
set_option maxRecDepth 100000 in
theorem w_instantiable_X4 : Cond.instantiable RX4 8 ∈ hsAll := hs_in 387 (by decide +kernel) (by decide +kernel)
set_option maxRecDepth 100000 in
theorem w_methodLink_XL_12 : Cond.methodLink RXL 12 yX4_init ∈ hsAll := hs_in 388 (by decide +kernel) (by decide +kernel)
set_option maxRecDepth 100000 in
theorem w_instanceMethod_X4_init : Cond.instanceMethod yX4_init ∈ hsAll := hs_in 389 (by decide +kernel) (by decide +kernel)
set_option maxRecDepth 100000 in
theorem w_code_X4_init : Cond.code yX4_init cX4_init 1 none ∈ hsAll := hs_in 390 (by decide +kernel) (by decide +kernel)
set_option maxRecDepth 100000 in
theorem w_methodLink_X4_1 : Cond.methodLink RX4 1 objectInit ∈ hsAll := hs_in 391 (by decide +kernel) (by decide +kernel)
set_option maxRecDepth 100000 in
theorem w_fieldLink_X4_7 : Cond.fieldLink RX4 7 "HewnSolidsModel" "bits" "[I" ∈ hsAll := hs_in 392 (by decide +kernel) (by decide +kernel)
set_option maxRecDepth 100000 in
theorem w_fieldLink_X4_30 : Cond.fieldLink RX4 30 "HewnSolidsModel" "done" "I" ∈ hsAll := hs_in 393 (by decide +kernel) (by decide +kernel)
set_option maxRecDepth 100000 in
theorem w_fieldLink_X4_38 : Cond.fieldLink RX4 38 "HewnSolidsModel" "all" "I" ∈ hsAll := hs_in 394 (by decide +kernel) (by decide +kernel)
set_option maxRecDepth 100000 in
theorem w_fieldLink_X4_13 : Cond.fieldLink RX4 13 "HewnSolidsModel" "whose" "[I" ∈ hsAll := hs_in 395 (by decide +kernel) (by decide +kernel)
set_option maxRecDepth 100000 in
theorem w_fieldLink_X4_16 : Cond.fieldLink RX4 16 "HewnSolidsModel" "seen" "[I" ∈ hsAll := hs_in 396 (by decide +kernel) (by decide +kernel)
set_option maxRecDepth 100000 in
theorem w_fieldLink_X4_73 : Cond.fieldLink RX4 73 "HewnSolidsModel" "top" "I" ∈ hsAll := hs_in 397 (by decide +kernel) (by decide +kernel)
set_option maxRecDepth 100000 in
theorem w_fieldLink_X4_19 : Cond.fieldLink RX4 19 "HewnSolidsModel" "pile" "[I" ∈ hsAll := hs_in 398 (by decide +kernel) (by decide +kernel)
set_option maxRecDepth 100000 in
theorem w_fieldLink_X4_76 : Cond.fieldLink RX4 76 "HewnSolidsModel" "border" "Z" ∈ hsAll := hs_in 399 (by decide +kernel) (by decide +kernel)
set_option maxRecDepth 100000 in
theorem w_methodLink_XL_45 : Cond.methodLink RXL 45 yX4_undo ∈ hsAll := hs_in 417 (by decide +kernel) (by decide +kernel)
set_option maxRecDepth 100000 in
theorem w_instanceMethod_X4_undo : Cond.instanceMethod yX4_undo ∈ hsAll := hs_in 418 (by decide +kernel) (by decide +kernel)
set_option maxRecDepth 100000 in
theorem w_code_X4_undo : Cond.code yX4_undo cX4_undo 1 (some .int) ∈ hsAll := hs_in 420 (by decide +kernel) (by decide +kernel)
set_option maxRecDepth 100000 in
theorem w_methodLink_X4_34 : Cond.methodLink RX4 34 yX4_copy ∈ hsAll := hs_in 421 (by decide +kernel) (by decide +kernel)
set_option maxRecDepth 100000 in
theorem w_instanceMethod_X4_copy : Cond.instanceMethod yX4_copy ∈ hsAll := hs_in 423 (by decide +kernel) (by decide +kernel)
set_option maxRecDepth 100000 in
theorem w_code_X4_copy : Cond.code yX4_copy cX4_copy 4 none ∈ hsAll := hs_in 424 (by decide +kernel) (by decide +kernel)
set_option maxRecDepth 100000 in
theorem w_methodLink_XL_49 : Cond.methodLink RXL 49 yX4_redo ∈ hsAll := hs_in 425 (by decide +kernel) (by decide +kernel)
set_option maxRecDepth 100000 in
theorem w_instanceMethod_X4_redo : Cond.instanceMethod yX4_redo ∈ hsAll := hs_in 426 (by decide +kernel) (by decide +kernel)
set_option maxRecDepth 100000 in
theorem w_code_X4_redo : Cond.code yX4_redo cX4_redo 1 (some .int) ∈ hsAll := hs_in 428 (by decide +kernel) (by decide +kernel)
set_option maxRecDepth 100000 in
theorem w_methodLink_XL_17 : Cond.methodLink RXL 17 yX4_box ∈ hsAll := hs_in 429 (by decide +kernel) (by decide +kernel)
set_option maxRecDepth 100000 in
theorem w_instanceMethod_X4_box : Cond.instanceMethod yX4_box ∈ hsAll := hs_in 430 (by decide +kernel) (by decide +kernel)
set_option maxRecDepth 100000 in
theorem w_code_X4_box : Cond.code yX4_box cX4_box 10 (some .int) ∈ hsAll := hs_in 432 (by decide +kernel) (by decide +kernel)
set_option maxRecDepth 100000 in
theorem w_methodLink_X4_45 : Cond.methodLink RX4 45 yX4_isSolid ∈ hsAll := hs_in 433 (by decide +kernel) (by decide +kernel)
set_option maxRecDepth 100000 in
theorem w_static_X4_isSolid : Cond.static yX4_isSolid ∈ hsAll := hs_in 434 (by decide +kernel) (by decide +kernel)
set_option maxRecDepth 100000 in
theorem w_code_X4_isSolid : Cond.code yX4_isSolid cX4_isSolid 1 (some .boolean) ∈ hsAll := hs_in 435 (by decide +kernel) (by decide +kernel)
set_option maxRecDepth 100000 in
theorem w_methodLink_X4_22 : Cond.methodLink RX4 22 yX4_isIn ∈ hsAll := hs_in 436 (by decide +kernel) (by decide +kernel)
set_option maxRecDepth 100000 in
theorem w_static_X4_isIn : Cond.static yX4_isIn ∈ hsAll := hs_in 437 (by decide +kernel) (by decide +kernel)
set_option maxRecDepth 100000 in
theorem w_code_X4_isIn : Cond.code yX4_isIn cX4_isIn 2 (some .boolean) ∈ hsAll := hs_in 438 (by decide +kernel) (by decide +kernel)
set_option maxRecDepth 100000 in
theorem w_methodLink_X4_49 : Cond.methodLink RX4 49 yX4_clearDraft ∈ hsAll := hs_in 439 (by decide +kernel) (by decide +kernel)
set_option maxRecDepth 100000 in
theorem w_instanceMethod_X4_clearDraft : Cond.instanceMethod yX4_clearDraft ∈ hsAll := hs_in 441 (by decide +kernel) (by decide +kernel)
set_option maxRecDepth 100000 in
theorem w_code_X4_clearDraft : Cond.code yX4_clearDraft cX4_clearDraft 2 none ∈ hsAll := hs_in 442 (by decide +kernel) (by decide +kernel)
set_option maxRecDepth 100000 in
theorem w_methodLink_X4_52 : Cond.methodLink RX4 52 yX4_put ∈ hsAll := hs_in 443 (by decide +kernel) (by decide +kernel)
set_option maxRecDepth 100000 in
theorem w_instanceMethod_X4_put : Cond.instanceMethod yX4_put ∈ hsAll := hs_in 445 (by decide +kernel) (by decide +kernel)
set_option maxRecDepth 100000 in
theorem w_code_X4_put : Cond.code yX4_put cX4_put 4 none ∈ hsAll := hs_in 446 (by decide +kernel) (by decide +kernel)
set_option maxRecDepth 100000 in
theorem w_methodLink_X4_56 : Cond.methodLink RX4 56 yX4_step ∈ hsAll := hs_in 447 (by decide +kernel) (by decide +kernel)
set_option maxRecDepth 100000 in
theorem w_instanceMethod_X4_step : Cond.instanceMethod yX4_step ∈ hsAll := hs_in 449 (by decide +kernel) (by decide +kernel)
set_option maxRecDepth 100000 in
theorem w_code_X4_step : Cond.code yX4_step cX4_step 3 (some .int) ∈ hsAll := hs_in 450 (by decide +kernel) (by decide +kernel)
set_option maxRecDepth 100000 in
theorem w_methodLink_X4_41 : Cond.methodLink RX4 41 yX4_count ∈ hsAll := hs_in 451 (by decide +kernel) (by decide +kernel)
set_option maxRecDepth 100000 in
theorem w_instanceMethod_X4_count : Cond.instanceMethod yX4_count ∈ hsAll := hs_in 453 (by decide +kernel) (by decide +kernel)
set_option maxRecDepth 100000 in
theorem w_code_X4_count : Cond.code yX4_count cX4_count 4 (some .int) ∈ hsAll := hs_in 454 (by decide +kernel) (by decide +kernel)
set_option maxRecDepth 100000 in
theorem w_methodLink_XL_22 : Cond.methodLink RXL 22 yX4_join ∈ hsAll := hs_in 455 (by decide +kernel) (by decide +kernel)
set_option maxRecDepth 100000 in
theorem w_instanceMethod_X4_join : Cond.instanceMethod yX4_join ∈ hsAll := hs_in 456 (by decide +kernel) (by decide +kernel)
set_option maxRecDepth 100000 in
theorem w_code_X4_join : Cond.code yX4_join cX4_join 9 (some .int) ∈ hsAll := hs_in 458 (by decide +kernel) (by decide +kernel)
set_option maxRecDepth 100000 in
theorem w_methodLink_X4_26 : Cond.methodLink RX4 26 yX4_has ∈ hsAll := hs_in 459 (by decide +kernel) (by decide +kernel)
set_option maxRecDepth 100000 in
theorem w_instanceMethod_X4_has : Cond.instanceMethod yX4_has ∈ hsAll := hs_in 461 (by decide +kernel) (by decide +kernel)
set_option maxRecDepth 100000 in
theorem w_code_X4_has : Cond.code yX4_has cX4_has 5 (some .boolean) ∈ hsAll := hs_in 462 (by decide +kernel) (by decide +kernel)
set_option maxRecDepth 100000 in
theorem w_methodLink_XL_27 : Cond.methodLink RXL 27 yX4_turn ∈ hsAll := hs_in 463 (by decide +kernel) (by decide +kernel)
set_option maxRecDepth 100000 in
theorem w_instanceMethod_X4_turn : Cond.instanceMethod yX4_turn ∈ hsAll := hs_in 464 (by decide +kernel) (by decide +kernel)
set_option maxRecDepth 100000 in
theorem w_code_X4_turn : Cond.code yX4_turn cX4_turn 8 (some .int) ∈ hsAll := hs_in 466 (by decide +kernel) (by decide +kernel)
set_option maxRecDepth 100000 in
theorem w_methodLink_X4_59 : Cond.methodLink RX4 59 yX4_isAxis ∈ hsAll := hs_in 467 (by decide +kernel) (by decide +kernel)
set_option maxRecDepth 100000 in
theorem w_static_X4_isAxis : Cond.static yX4_isAxis ∈ hsAll := hs_in 468 (by decide +kernel) (by decide +kernel)
set_option maxRecDepth 100000 in
theorem w_code_X4_isAxis : Cond.code yX4_isAxis cX4_isAxis 1 (some .boolean) ∈ hsAll := hs_in 469 (by decide +kernel) (by decide +kernel)
set_option maxRecDepth 100000 in
theorem w_methodLink_XL_31 : Cond.methodLink RXL 31 yX4_mirror ∈ hsAll := hs_in 470 (by decide +kernel) (by decide +kernel)
set_option maxRecDepth 100000 in
theorem w_instanceMethod_X4_mirror : Cond.instanceMethod yX4_mirror ∈ hsAll := hs_in 471 (by decide +kernel) (by decide +kernel)
set_option maxRecDepth 100000 in
theorem w_code_X4_mirror : Cond.code yX4_mirror cX4_mirror 7 (some .int) ∈ hsAll := hs_in 473 (by decide +kernel) (by decide +kernel)
set_option maxRecDepth 100000 in
theorem w_methodLink_XL_35 : Cond.methodLink RXL 35 yX4_shift ∈ hsAll := hs_in 474 (by decide +kernel) (by decide +kernel)
set_option maxRecDepth 100000 in
theorem w_instanceMethod_X4_shift : Cond.instanceMethod yX4_shift ∈ hsAll := hs_in 475 (by decide +kernel) (by decide +kernel)
set_option maxRecDepth 100000 in
theorem w_code_X4_shift : Cond.code yX4_shift cX4_shift 9 (some .int) ∈ hsAll := hs_in 477 (by decide +kernel) (by decide +kernel)
set_option maxRecDepth 100000 in
theorem w_methodLink_X4_62 : Cond.methodLink RX4 62 yX4_shifted ∈ hsAll := hs_in 478 (by decide +kernel) (by decide +kernel)
set_option maxRecDepth 100000 in
theorem w_static_X4_shifted : Cond.static yX4_shifted ∈ hsAll := hs_in 479 (by decide +kernel) (by decide +kernel)
set_option maxRecDepth 100000 in
theorem w_code_X4_shifted : Cond.code yX4_shifted cX4_shifted 2 (some .int) ∈ hsAll := hs_in 480 (by decide +kernel) (by decide +kernel)
set_option maxRecDepth 100000 in
theorem w_methodLink_XL_40 : Cond.methodLink RXL 40 yX4_sweep ∈ hsAll := hs_in 481 (by decide +kernel) (by decide +kernel)
set_option maxRecDepth 100000 in
theorem w_instanceMethod_X4_sweep : Cond.instanceMethod yX4_sweep ∈ hsAll := hs_in 482 (by decide +kernel) (by decide +kernel)
set_option maxRecDepth 100000 in
theorem w_code_X4_sweep : Cond.code yX4_sweep cX4_sweep 10 (some .int) ∈ hsAll := hs_in 484 (by decide +kernel) (by decide +kernel)
set_option maxRecDepth 100000 in
theorem w_methodLink_X4_66 : Cond.methodLink RX4 66 yX4_hasBy ∈ hsAll := hs_in 485 (by decide +kernel) (by decide +kernel)
set_option maxRecDepth 100000 in
theorem w_instanceMethod_X4_hasBy : Cond.instanceMethod yX4_hasBy ∈ hsAll := hs_in 487 (by decide +kernel) (by decide +kernel)
set_option maxRecDepth 100000 in
theorem w_code_X4_hasBy : Cond.code yX4_hasBy cX4_hasBy 6 (some .boolean) ∈ hsAll := hs_in 488 (by decide +kernel) (by decide +kernel)
set_option maxRecDepth 100000 in
theorem w_methodLink_XL_54 : Cond.methodLink RXL 54 yX4_volume ∈ hsAll := hs_in 489 (by decide +kernel) (by decide +kernel)
set_option maxRecDepth 100000 in
theorem w_instanceMethod_X4_volume : Cond.instanceMethod yX4_volume ∈ hsAll := hs_in 490 (by decide +kernel) (by decide +kernel)
set_option maxRecDepth 100000 in
theorem w_code_X4_volume : Cond.code yX4_volume cX4_volume 2 (some .int) ∈ hsAll := hs_in 492 (by decide +kernel) (by decide +kernel)
set_option maxRecDepth 100000 in
theorem w_methodLink_XL_58 : Cond.methodLink RXL 58 yX4_sides ∈ hsAll := hs_in 493 (by decide +kernel) (by decide +kernel)
set_option maxRecDepth 100000 in
theorem w_instanceMethod_X4_sides : Cond.instanceMethod yX4_sides ∈ hsAll := hs_in 494 (by decide +kernel) (by decide +kernel)
set_option maxRecDepth 100000 in
theorem w_code_X4_sides : Cond.code yX4_sides cX4_sides 7 (some .int) ∈ hsAll := hs_in 496 (by decide +kernel) (by decide +kernel)
set_option maxRecDepth 100000 in
theorem w_methodLink_XL_62 : Cond.methodLink RXL 62 yX4_edges ∈ hsAll := hs_in 497 (by decide +kernel) (by decide +kernel)
set_option maxRecDepth 100000 in
theorem w_instanceMethod_X4_edges : Cond.instanceMethod yX4_edges ∈ hsAll := hs_in 498 (by decide +kernel) (by decide +kernel)
set_option maxRecDepth 100000 in
theorem w_code_X4_edges : Cond.code yX4_edges cX4_edges 7 (some .int) ∈ hsAll := hs_in 500 (by decide +kernel) (by decide +kernel)
set_option maxRecDepth 100000 in
theorem w_methodLink_X4_70 : Cond.methodLink RX4 70 yX4_isEdge ∈ hsAll := hs_in 501 (by decide +kernel) (by decide +kernel)
set_option maxRecDepth 100000 in
theorem w_instanceMethod_X4_isEdge : Cond.instanceMethod yX4_isEdge ∈ hsAll := hs_in 503 (by decide +kernel) (by decide +kernel)
set_option maxRecDepth 100000 in
theorem w_code_X4_isEdge : Cond.code yX4_isEdge cX4_isEdge 11 (some .boolean) ∈ hsAll := hs_in 504 (by decide +kernel) (by decide +kernel)
set_option maxRecDepth 100000 in
theorem w_methodLink_XL_66 : Cond.methodLink RXL 66 yX4_pieces ∈ hsAll := hs_in 505 (by decide +kernel) (by decide +kernel)
set_option maxRecDepth 100000 in
theorem w_instanceMethod_X4_pieces : Cond.instanceMethod yX4_pieces ∈ hsAll := hs_in 506 (by decide +kernel) (by decide +kernel)
set_option maxRecDepth 100000 in
theorem w_code_X4_pieces : Cond.code yX4_pieces cX4_pieces 2 (some .int) ∈ hsAll := hs_in 508 (by decide +kernel) (by decide +kernel)
set_option maxRecDepth 100000 in
theorem w_methodLink_X4_91 : Cond.methodLink RX4 91 yX4_sets ∈ hsAll := hs_in 509 (by decide +kernel) (by decide +kernel)
set_option maxRecDepth 100000 in
theorem w_instanceMethod_X4_sets : Cond.instanceMethod yX4_sets ∈ hsAll := hs_in 511 (by decide +kernel) (by decide +kernel)
set_option maxRecDepth 100000 in
theorem w_code_X4_sets : Cond.code yX4_sets cX4_sets 5 (some .int) ∈ hsAll := hs_in 512 (by decide +kernel) (by decide +kernel)
set_option maxRecDepth 100000 in
theorem w_methodLink_X4_83 : Cond.methodLink RX4 83 yX4_see ∈ hsAll := hs_in 513 (by decide +kernel) (by decide +kernel)
set_option maxRecDepth 100000 in
theorem w_instanceMethod_X4_see : Cond.instanceMethod yX4_see ∈ hsAll := hs_in 515 (by decide +kernel) (by decide +kernel)
set_option maxRecDepth 100000 in
theorem w_code_X4_see : Cond.code yX4_see cX4_see 6 none ∈ hsAll := hs_in 516 (by decide +kernel) (by decide +kernel)
set_option maxRecDepth 100000 in
theorem w_methodLink_X4_87 : Cond.methodLink RX4 87 yX4_spread ∈ hsAll := hs_in 517 (by decide +kernel) (by decide +kernel)
set_option maxRecDepth 100000 in
theorem w_instanceMethod_X4_spread : Cond.instanceMethod yX4_spread ∈ hsAll := hs_in 519 (by decide +kernel) (by decide +kernel)
set_option maxRecDepth 100000 in
theorem w_code_X4_spread : Cond.code yX4_spread cX4_spread 6 none ∈ hsAll := hs_in 520 (by decide +kernel) (by decide +kernel)
set_option maxRecDepth 100000 in
theorem w_methodLink_X4_80 : Cond.methodLink RX4 80 yX4_isBorder ∈ hsAll := hs_in 521 (by decide +kernel) (by decide +kernel)
set_option maxRecDepth 100000 in
theorem w_static_X4_isBorder : Cond.static yX4_isBorder ∈ hsAll := hs_in 522 (by decide +kernel) (by decide +kernel)
set_option maxRecDepth 100000 in
theorem w_code_X4_isBorder : Cond.code yX4_isBorder cX4_isBorder 1 (some .boolean) ∈ hsAll := hs_in 523 (by decide +kernel) (by decide +kernel)
set_option maxRecDepth 100000 in
theorem w_methodLink_XL_70 : Cond.methodLink RXL 70 yX4_hollows ∈ hsAll := hs_in 524 (by decide +kernel) (by decide +kernel)
set_option maxRecDepth 100000 in
theorem w_instanceMethod_X4_hollows : Cond.instanceMethod yX4_hollows ∈ hsAll := hs_in 525 (by decide +kernel) (by decide +kernel)
set_option maxRecDepth 100000 in
theorem w_code_X4_hollows : Cond.code yX4_hollows cX4_hollows 2 (some .int) ∈ hsAll := hs_in 527 (by decide +kernel) (by decide +kernel)
set_option maxRecDepth 100000 in
theorem w_methodLink_XL_74 : Cond.methodLink RXL 74 yX4_moment ∈ hsAll := hs_in 528 (by decide +kernel) (by decide +kernel)
set_option maxRecDepth 100000 in
theorem w_instanceMethod_X4_moment : Cond.instanceMethod yX4_moment ∈ hsAll := hs_in 529 (by decide +kernel) (by decide +kernel)
set_option maxRecDepth 100000 in
theorem w_code_X4_moment : Cond.code yX4_moment cX4_moment 5 (some .int) ∈ hsAll := hs_in 531 (by decide +kernel) (by decide +kernel)
set_option maxRecDepth 100000 in
theorem w_methodLink_X4_95 : Cond.methodLink RX4 95 yX4_countAt ∈ hsAll := hs_in 532 (by decide +kernel) (by decide +kernel)
set_option maxRecDepth 100000 in
theorem w_instanceMethod_X4_countAt : Cond.instanceMethod yX4_countAt ∈ hsAll := hs_in 534 (by decide +kernel) (by decide +kernel)
set_option maxRecDepth 100000 in
theorem w_code_X4_countAt : Cond.code yX4_countAt cX4_countAt 6 (some .int) ∈ hsAll := hs_in 535 (by decide +kernel) (by decide +kernel)
set_option maxRecDepth 100000 in
theorem w_methodLink_XL_79 : Cond.methodLink RXL 79 yX4_extent ∈ hsAll := hs_in 536 (by decide +kernel) (by decide +kernel)
set_option maxRecDepth 100000 in
theorem w_instanceMethod_X4_extent : Cond.instanceMethod yX4_extent ∈ hsAll := hs_in 537 (by decide +kernel) (by decide +kernel)
set_option maxRecDepth 100000 in
theorem w_code_X4_extent : Cond.code yX4_extent cX4_extent 7 (some .int) ∈ hsAll := hs_in 539 (by decide +kernel) (by decide +kernel)
set_option maxRecDepth 100000 in
theorem w_methodLink_XL_83 : Cond.methodLink RXL 83 yX4_inside ∈ hsAll := hs_in 540 (by decide +kernel) (by decide +kernel)
set_option maxRecDepth 100000 in
theorem w_instanceMethod_X4_inside : Cond.instanceMethod yX4_inside ∈ hsAll := hs_in 541 (by decide +kernel) (by decide +kernel)
set_option maxRecDepth 100000 in
theorem w_code_X4_inside : Cond.code yX4_inside cX4_inside 9 (some .int) ∈ hsAll := hs_in 543 (by decide +kernel) (by decide +kernel)
set_option maxRecDepth 100000 in
theorem w_methodLink_XL_87 : Cond.methodLink RXL 87 yX4_section ∈ hsAll := hs_in 544 (by decide +kernel) (by decide +kernel)
set_option maxRecDepth 100000 in
theorem w_instanceMethod_X4_section : Cond.instanceMethod yX4_section ∈ hsAll := hs_in 545 (by decide +kernel) (by decide +kernel)
set_option maxRecDepth 100000 in
theorem w_code_X4_section : Cond.code yX4_section cX4_section 4 (some .int) ∈ hsAll := hs_in 547 (by decide +kernel) (by decide +kernel)
set_option maxRecDepth 100000 in
theorem w_methodLink_XL_92 : Cond.methodLink RXL 92 yX4_same ∈ hsAll := hs_in 548 (by decide +kernel) (by decide +kernel)
set_option maxRecDepth 100000 in
theorem w_instanceMethod_X4_same : Cond.instanceMethod yX4_same ∈ hsAll := hs_in 549 (by decide +kernel) (by decide +kernel)
set_option maxRecDepth 100000 in
theorem w_code_X4_same : Cond.code yX4_same cX4_same 5 (some .boolean) ∈ hsAll := hs_in 551 (by decide +kernel) (by decide +kernel)
set_option maxRecDepth 100000 in
theorem w_methodLink_XL_97 : Cond.methodLink RXL 97 yX4_depth ∈ hsAll := hs_in 552 (by decide +kernel) (by decide +kernel)
set_option maxRecDepth 100000 in
theorem w_instanceMethod_X4_depth : Cond.instanceMethod yX4_depth ∈ hsAll := hs_in 553 (by decide +kernel) (by decide +kernel)
set_option maxRecDepth 100000 in
theorem w_code_X4_depth : Cond.code yX4_depth cX4_depth 6 (some .int) ∈ hsAll := hs_in 555 (by decide +kernel) (by decide +kernel)
set_option maxRecDepth 100000 in
theorem w_methodLink_X4_99 : Cond.methodLink RX4 99 yX4_depthOf ∈ hsAll := hs_in 556 (by decide +kernel) (by decide +kernel)
set_option maxRecDepth 100000 in
theorem w_instanceMethod_X4_depthOf : Cond.instanceMethod yX4_depthOf ∈ hsAll := hs_in 558 (by decide +kernel) (by decide +kernel)
set_option maxRecDepth 100000 in
theorem w_code_X4_depthOf : Cond.code yX4_depthOf cX4_depthOf 7 (some .int) ∈ hsAll := hs_in 559 (by decide +kernel) (by decide +kernel)
set_option maxRecDepth 100000 in
theorem w_methodLink_XL_102 : Cond.methodLink RXL 102 yX4_stroke ∈ hsAll := hs_in 560 (by decide +kernel) (by decide +kernel)
set_option maxRecDepth 100000 in
theorem w_instanceMethod_X4_stroke : Cond.instanceMethod yX4_stroke ∈ hsAll := hs_in 561 (by decide +kernel) (by decide +kernel)
set_option maxRecDepth 100000 in
theorem w_code_X4_stroke : Cond.code yX4_stroke cX4_stroke 8 (some .int) ∈ hsAll := hs_in 563 (by decide +kernel) (by decide +kernel)
set_option maxRecDepth 100000 in
theorem w_methodLink_X4_107 : Cond.methodLink RX4 107 yX4_strokeOf ∈ hsAll := hs_in 564 (by decide +kernel) (by decide +kernel)
set_option maxRecDepth 100000 in
theorem w_instanceMethod_X4_strokeOf : Cond.instanceMethod yX4_strokeOf ∈ hsAll := hs_in 566 (by decide +kernel) (by decide +kernel)
set_option maxRecDepth 100000 in
theorem w_code_X4_strokeOf : Cond.code yX4_strokeOf cX4_strokeOf 10 (some .int) ∈ hsAll := hs_in 567 (by decide +kernel) (by decide +kernel)
set_option maxRecDepth 100000 in
theorem w_methodLink_X4_103 : Cond.methodLink RX4 103 yX4_isEdgeAt ∈ hsAll := hs_in 568 (by decide +kernel) (by decide +kernel)
set_option maxRecDepth 100000 in
theorem w_instanceMethod_X4_isEdgeAt : Cond.instanceMethod yX4_isEdgeAt ∈ hsAll := hs_in 570 (by decide +kernel) (by decide +kernel)
set_option maxRecDepth 100000 in
theorem w_code_X4_isEdgeAt : Cond.code yX4_isEdgeAt cX4_isEdgeAt 7 (some .boolean) ∈ hsAll := hs_in 571 (by decide +kernel) (by decide +kernel)
set_option maxRecDepth 100000 in
theorem w_methodLink_XL_107 : Cond.methodLink RXL 107 yX4_strokes ∈ hsAll := hs_in 572 (by decide +kernel) (by decide +kernel)
set_option maxRecDepth 100000 in
theorem w_instanceMethod_X4_strokes : Cond.instanceMethod yX4_strokes ∈ hsAll := hs_in 573 (by decide +kernel) (by decide +kernel)
set_option maxRecDepth 100000 in
theorem w_code_X4_strokes : Cond.code yX4_strokes cX4_strokes 8 (some .int) ∈ hsAll := hs_in 575 (by decide +kernel) (by decide +kernel)
set_option maxRecDepth 100000 in
theorem w_selects_X0_box : Cond.selects RX0 yX0_box yX0_box ∈ hsAll := hs_in 109 (by decide +kernel) (by decide +kernel)
set_option maxRecDepth 100000 in
theorem w_selects_X1_becomeBox : Cond.selects RX1 yX1_becomeBox yX1_becomeBox ∈ hsAll := hs_in 122 (by decide +kernel) (by decide +kernel)
set_option maxRecDepth 100000 in
theorem w_selects_X0_takeStep : Cond.selects RX0 yX0_takeStep yX0_takeStep ∈ hsAll := hs_in 0 (by decide +kernel) (by decide +kernel)
set_option maxRecDepth 100000 in
theorem w_selects_X2_keep : Cond.selects RX2 yX2_keep yX2_keep ∈ hsAll := hs_in 133 (by decide +kernel) (by decide +kernel)
set_option maxRecDepth 100000 in
theorem w_selects_X1_countCells : Cond.selects RX1 yX1_countCells yX1_countCells ∈ hsAll := hs_in 137 (by decide +kernel) (by decide +kernel)
set_option maxRecDepth 100000 in
theorem w_selects_X0_join : Cond.selects RX0 yX0_join yX0_join ∈ hsAll := hs_in 147 (by decide +kernel) (by decide +kernel)
set_option maxRecDepth 100000 in
theorem w_selects_X1_becomeJoined : Cond.selects RX1 yX1_becomeJoined yX1_becomeJoined ∈ hsAll := hs_in 151 (by decide +kernel) (by decide +kernel)
set_option maxRecDepth 100000 in
theorem w_selects_X0_turn : Cond.selects RX0 yX0_turn yX0_turn ∈ hsAll := hs_in 158 (by decide +kernel) (by decide +kernel)
set_option maxRecDepth 100000 in
theorem w_selects_X1_becomeTurned : Cond.selects RX1 yX1_becomeTurned yX1_becomeTurned ∈ hsAll := hs_in 165 (by decide +kernel) (by decide +kernel)
set_option maxRecDepth 100000 in
theorem w_selects_X1_columnAlong : Cond.selects RX1 yX1_columnAlong yX1_columnAlong ∈ hsAll := hs_in 172 (by decide +kernel) (by decide +kernel)
set_option maxRecDepth 100000 in
theorem w_selects_X1_column : Cond.selects RX1 yX1_column yX1_column ∈ hsAll := hs_in 176 (by decide +kernel) (by decide +kernel)
set_option maxRecDepth 100000 in
theorem w_selects_X0_mirror : Cond.selects RX0 yX0_mirror yX0_mirror ∈ hsAll := hs_in 191 (by decide +kernel) (by decide +kernel)
set_option maxRecDepth 100000 in
theorem w_selects_X1_becomeMirrored : Cond.selects RX1 yX1_becomeMirrored yX1_becomeMirrored ∈ hsAll := hs_in 195 (by decide +kernel) (by decide +kernel)
set_option maxRecDepth 100000 in
theorem w_selects_X0_shift : Cond.selects RX0 yX0_shift yX0_shift ∈ hsAll := hs_in 202 (by decide +kernel) (by decide +kernel)
set_option maxRecDepth 100000 in
theorem w_selects_X1_leastAlong : Cond.selects RX1 yX1_leastAlong yX1_leastAlong ∈ hsAll := hs_in 209 (by decide +kernel) (by decide +kernel)
set_option maxRecDepth 100000 in
theorem w_selects_X1_countLayer : Cond.selects RX1 yX1_countLayer yX1_countLayer ∈ hsAll := hs_in 213 (by decide +kernel) (by decide +kernel)
set_option maxRecDepth 100000 in
theorem w_selects_X1_greatestAlong : Cond.selects RX1 yX1_greatestAlong yX1_greatestAlong ∈ hsAll := hs_in 217 (by decide +kernel) (by decide +kernel)
set_option maxRecDepth 100000 in
theorem w_selects_X1_becomeShifted : Cond.selects RX1 yX1_becomeShifted yX1_becomeShifted ∈ hsAll := hs_in 221 (by decide +kernel) (by decide +kernel)
set_option maxRecDepth 100000 in
theorem w_selects_X0_sweep : Cond.selects RX0 yX0_sweep yX0_sweep ∈ hsAll := hs_in 225 (by decide +kernel) (by decide +kernel)
set_option maxRecDepth 100000 in
theorem w_selects_X1_becomeSwept : Cond.selects RX1 yX1_becomeSwept yX1_becomeSwept ∈ hsAll := hs_in 229 (by decide +kernel) (by decide +kernel)
set_option maxRecDepth 100000 in
theorem w_selects_X0_undo : Cond.selects RX0 yX0_undo yX0_undo ∈ hsAll := hs_in 233 (by decide +kernel) (by decide +kernel)
set_option maxRecDepth 100000 in
theorem w_selects_X2_takeBack : Cond.selects RX2 yX2_takeBack yX2_takeBack ∈ hsAll := hs_in 237 (by decide +kernel) (by decide +kernel)
set_option maxRecDepth 100000 in
theorem w_selects_X2_exchange : Cond.selects RX2 yX2_exchange yX2_exchange ∈ hsAll := hs_in 1 (by decide +kernel) (by decide +kernel)
set_option maxRecDepth 100000 in
theorem w_selects_X0_redo : Cond.selects RX0 yX0_redo yX0_redo ∈ hsAll := hs_in 245 (by decide +kernel) (by decide +kernel)
set_option maxRecDepth 100000 in
theorem w_selects_X2_doAgain : Cond.selects RX2 yX2_doAgain yX2_doAgain ∈ hsAll := hs_in 249 (by decide +kernel) (by decide +kernel)
set_option maxRecDepth 100000 in
theorem w_selects_X0_volume : Cond.selects RX0 yX0_volume yX0_volume ∈ hsAll := hs_in 253 (by decide +kernel) (by decide +kernel)
set_option maxRecDepth 100000 in
theorem w_selects_X0_sides : Cond.selects RX0 yX0_sides yX0_sides ∈ hsAll := hs_in 257 (by decide +kernel) (by decide +kernel)
set_option maxRecDepth 100000 in
theorem w_selects_X1_countSides : Cond.selects RX1 yX1_countSides yX1_countSides ∈ hsAll := hs_in 261 (by decide +kernel) (by decide +kernel)
set_option maxRecDepth 100000 in
theorem w_selects_X0_edges : Cond.selects RX0 yX0_edges yX0_edges ∈ hsAll := hs_in 265 (by decide +kernel) (by decide +kernel)
set_option maxRecDepth 100000 in
theorem w_selects_X1_countEdges : Cond.selects RX1 yX1_countEdges yX1_countEdges ∈ hsAll := hs_in 269 (by decide +kernel) (by decide +kernel)
set_option maxRecDepth 100000 in
theorem w_selects_X0_pieces : Cond.selects RX0 yX0_pieces yX0_pieces ∈ hsAll := hs_in 280 (by decide +kernel) (by decide +kernel)
set_option maxRecDepth 100000 in
theorem w_selects_X3_countPieces : Cond.selects RX3 yX3_countPieces yX3_countPieces ∈ hsAll := hs_in 284 (by decide +kernel) (by decide +kernel)
set_option maxRecDepth 100000 in
theorem w_selects_X3_countLeft : Cond.selects RX3 yX3_countLeft yX3_countLeft ∈ hsAll := hs_in 2 (by decide +kernel) (by decide +kernel)
set_option maxRecDepth 100000 in
theorem w_selects_X3_countFrom : Cond.selects RX3 yX3_countFrom yX3_countFrom ∈ hsAll := hs_in 3 (by decide +kernel) (by decide +kernel)
set_option maxRecDepth 100000 in
theorem w_selects_X3_take : Cond.selects RX3 yX3_take yX3_take ∈ hsAll := hs_in 4 (by decide +kernel) (by decide +kernel)
set_option maxRecDepth 100000 in
theorem w_selects_X3_spread : Cond.selects RX3 yX3_spread yX3_spread ∈ hsAll := hs_in 5 (by decide +kernel) (by decide +kernel)
set_option maxRecDepth 100000 in
theorem w_selects_X0_hollows : Cond.selects RX0 yX0_hollows yX0_hollows ∈ hsAll := hs_in 305 (by decide +kernel) (by decide +kernel)
set_option maxRecDepth 100000 in
theorem w_selects_X3_countHollows : Cond.selects RX3 yX3_countHollows yX3_countHollows ∈ hsAll := hs_in 309 (by decide +kernel) (by decide +kernel)
set_option maxRecDepth 100000 in
theorem w_selects_X3_dropFromBorder : Cond.selects RX3 yX3_dropFromBorder yX3_dropFromBorder ∈ hsAll := hs_in 6 (by decide +kernel) (by decide +kernel)
set_option maxRecDepth 100000 in
theorem w_selects_X0_moment : Cond.selects RX0 yX0_moment yX0_moment ∈ hsAll := hs_in 317 (by decide +kernel) (by decide +kernel)
set_option maxRecDepth 100000 in
theorem w_selects_X0_extent : Cond.selects RX0 yX0_extent yX0_extent ∈ hsAll := hs_in 322 (by decide +kernel) (by decide +kernel)
set_option maxRecDepth 100000 in
theorem w_selects_X0_inside : Cond.selects RX0 yX0_inside yX0_inside ∈ hsAll := hs_in 326 (by decide +kernel) (by decide +kernel)
set_option maxRecDepth 100000 in
theorem w_selects_X1_countAround : Cond.selects RX1 yX1_countAround yX1_countAround ∈ hsAll := hs_in 333 (by decide +kernel) (by decide +kernel)
set_option maxRecDepth 100000 in
theorem w_selects_X1_countPair : Cond.selects RX1 yX1_countPair yX1_countPair ∈ hsAll := hs_in 7 (by decide +kernel) (by decide +kernel)
set_option maxRecDepth 100000 in
theorem w_selects_X0_section : Cond.selects RX0 yX0_section yX0_section ∈ hsAll := hs_in 341 (by decide +kernel) (by decide +kernel)
set_option maxRecDepth 100000 in
theorem w_selects_X0_same : Cond.selects RX0 yX0_same yX0_same ∈ hsAll := hs_in 345 (by decide +kernel) (by decide +kernel)
set_option maxRecDepth 100000 in
theorem w_selects_X1_hasCellsOf : Cond.selects RX1 yX1_hasCellsOf yX1_hasCellsOf ∈ hsAll := hs_in 349 (by decide +kernel) (by decide +kernel)
set_option maxRecDepth 100000 in
theorem w_selects_X0_depth : Cond.selects RX0 yX0_depth yX0_depth ∈ hsAll := hs_in 353 (by decide +kernel) (by decide +kernel)
set_option maxRecDepth 100000 in
theorem w_selects_X0_stroke : Cond.selects RX0 yX0_stroke yX0_stroke ∈ hsAll := hs_in 368 (by decide +kernel) (by decide +kernel)
set_option maxRecDepth 100000 in
theorem w_selects_X0_strokes : Cond.selects RX0 yX0_strokes yX0_strokes ∈ hsAll := hs_in 379 (by decide +kernel) (by decide +kernel)
set_option maxRecDepth 100000 in
theorem w_selects_X1_becomeView : Cond.selects RX1 yX1_becomeView yX1_becomeView ∈ hsAll := hs_in 383 (by decide +kernel) (by decide +kernel)
set_option maxRecDepth 100000 in
theorem w_selects_X4_undo : Cond.selects RX4 yX4_undo yX4_undo ∈ hsAll := hs_in 419 (by decide +kernel) (by decide +kernel)
set_option maxRecDepth 100000 in
theorem w_selects_X4_copy : Cond.selects RX4 yX4_copy yX4_copy ∈ hsAll := hs_in 8 (by decide +kernel) (by decide +kernel)
set_option maxRecDepth 100000 in
theorem w_selects_X4_redo : Cond.selects RX4 yX4_redo yX4_redo ∈ hsAll := hs_in 427 (by decide +kernel) (by decide +kernel)
set_option maxRecDepth 100000 in
theorem w_selects_X4_box : Cond.selects RX4 yX4_box yX4_box ∈ hsAll := hs_in 431 (by decide +kernel) (by decide +kernel)
set_option maxRecDepth 100000 in
theorem w_selects_X4_clearDraft : Cond.selects RX4 yX4_clearDraft yX4_clearDraft ∈ hsAll := hs_in 9 (by decide +kernel) (by decide +kernel)
set_option maxRecDepth 100000 in
theorem w_selects_X4_put : Cond.selects RX4 yX4_put yX4_put ∈ hsAll := hs_in 10 (by decide +kernel) (by decide +kernel)
set_option maxRecDepth 100000 in
theorem w_selects_X4_step : Cond.selects RX4 yX4_step yX4_step ∈ hsAll := hs_in 11 (by decide +kernel) (by decide +kernel)
set_option maxRecDepth 100000 in
theorem w_selects_X4_count : Cond.selects RX4 yX4_count yX4_count ∈ hsAll := hs_in 12 (by decide +kernel) (by decide +kernel)
set_option maxRecDepth 100000 in
theorem w_selects_X4_join : Cond.selects RX4 yX4_join yX4_join ∈ hsAll := hs_in 457 (by decide +kernel) (by decide +kernel)
set_option maxRecDepth 100000 in
theorem w_selects_X4_has : Cond.selects RX4 yX4_has yX4_has ∈ hsAll := hs_in 13 (by decide +kernel) (by decide +kernel)
set_option maxRecDepth 100000 in
theorem w_selects_X4_turn : Cond.selects RX4 yX4_turn yX4_turn ∈ hsAll := hs_in 465 (by decide +kernel) (by decide +kernel)
set_option maxRecDepth 100000 in
theorem w_selects_X4_mirror : Cond.selects RX4 yX4_mirror yX4_mirror ∈ hsAll := hs_in 472 (by decide +kernel) (by decide +kernel)
set_option maxRecDepth 100000 in
theorem w_selects_X4_shift : Cond.selects RX4 yX4_shift yX4_shift ∈ hsAll := hs_in 476 (by decide +kernel) (by decide +kernel)
set_option maxRecDepth 100000 in
theorem w_selects_X4_sweep : Cond.selects RX4 yX4_sweep yX4_sweep ∈ hsAll := hs_in 483 (by decide +kernel) (by decide +kernel)
set_option maxRecDepth 100000 in
theorem w_selects_X4_hasBy : Cond.selects RX4 yX4_hasBy yX4_hasBy ∈ hsAll := hs_in 14 (by decide +kernel) (by decide +kernel)
set_option maxRecDepth 100000 in
theorem w_selects_X4_volume : Cond.selects RX4 yX4_volume yX4_volume ∈ hsAll := hs_in 491 (by decide +kernel) (by decide +kernel)
set_option maxRecDepth 100000 in
theorem w_selects_X4_sides : Cond.selects RX4 yX4_sides yX4_sides ∈ hsAll := hs_in 495 (by decide +kernel) (by decide +kernel)
set_option maxRecDepth 100000 in
theorem w_selects_X4_edges : Cond.selects RX4 yX4_edges yX4_edges ∈ hsAll := hs_in 499 (by decide +kernel) (by decide +kernel)
set_option maxRecDepth 100000 in
theorem w_selects_X4_isEdge : Cond.selects RX4 yX4_isEdge yX4_isEdge ∈ hsAll := hs_in 15 (by decide +kernel) (by decide +kernel)
set_option maxRecDepth 100000 in
theorem w_selects_X4_pieces : Cond.selects RX4 yX4_pieces yX4_pieces ∈ hsAll := hs_in 507 (by decide +kernel) (by decide +kernel)
set_option maxRecDepth 100000 in
theorem w_selects_X4_sets : Cond.selects RX4 yX4_sets yX4_sets ∈ hsAll := hs_in 16 (by decide +kernel) (by decide +kernel)
set_option maxRecDepth 100000 in
theorem w_selects_X4_see : Cond.selects RX4 yX4_see yX4_see ∈ hsAll := hs_in 17 (by decide +kernel) (by decide +kernel)
set_option maxRecDepth 100000 in
theorem w_selects_X4_spread : Cond.selects RX4 yX4_spread yX4_spread ∈ hsAll := hs_in 18 (by decide +kernel) (by decide +kernel)
set_option maxRecDepth 100000 in
theorem w_selects_X4_hollows : Cond.selects RX4 yX4_hollows yX4_hollows ∈ hsAll := hs_in 526 (by decide +kernel) (by decide +kernel)
set_option maxRecDepth 100000 in
theorem w_selects_X4_moment : Cond.selects RX4 yX4_moment yX4_moment ∈ hsAll := hs_in 530 (by decide +kernel) (by decide +kernel)
set_option maxRecDepth 100000 in
theorem w_selects_X4_countAt : Cond.selects RX4 yX4_countAt yX4_countAt ∈ hsAll := hs_in 19 (by decide +kernel) (by decide +kernel)
set_option maxRecDepth 100000 in
theorem w_selects_X4_extent : Cond.selects RX4 yX4_extent yX4_extent ∈ hsAll := hs_in 538 (by decide +kernel) (by decide +kernel)
set_option maxRecDepth 100000 in
theorem w_selects_X4_inside : Cond.selects RX4 yX4_inside yX4_inside ∈ hsAll := hs_in 542 (by decide +kernel) (by decide +kernel)
set_option maxRecDepth 100000 in
theorem w_selects_X4_section : Cond.selects RX4 yX4_section yX4_section ∈ hsAll := hs_in 546 (by decide +kernel) (by decide +kernel)
set_option maxRecDepth 100000 in
theorem w_selects_X4_same : Cond.selects RX4 yX4_same yX4_same ∈ hsAll := hs_in 550 (by decide +kernel) (by decide +kernel)
set_option maxRecDepth 100000 in
theorem w_selects_X4_depth : Cond.selects RX4 yX4_depth yX4_depth ∈ hsAll := hs_in 554 (by decide +kernel) (by decide +kernel)
set_option maxRecDepth 100000 in
theorem w_selects_X4_depthOf : Cond.selects RX4 yX4_depthOf yX4_depthOf ∈ hsAll := hs_in 20 (by decide +kernel) (by decide +kernel)
set_option maxRecDepth 100000 in
theorem w_selects_X4_stroke : Cond.selects RX4 yX4_stroke yX4_stroke ∈ hsAll := hs_in 562 (by decide +kernel) (by decide +kernel)
set_option maxRecDepth 100000 in
theorem w_selects_X4_strokeOf : Cond.selects RX4 yX4_strokeOf yX4_strokeOf ∈ hsAll := hs_in 21 (by decide +kernel) (by decide +kernel)
set_option maxRecDepth 100000 in
theorem w_selects_X4_isEdgeAt : Cond.selects RX4 yX4_isEdgeAt yX4_isEdgeAt ∈ hsAll := hs_in 22 (by decide +kernel) (by decide +kernel)
set_option maxRecDepth 100000 in
theorem w_selects_X4_strokes : Cond.selects RX4 yX4_strokes yX4_strokes ∈ hsAll := hs_in 574 (by decide +kernel) (by decide +kernel)
set_option maxRecDepth 100000 in
theorem w_lay_X0_0 : u_lay RX0 TX0 0 ∈ hsAll := hs_in 96 (by decide +kernel) (by decide +kernel)
set_option maxRecDepth 100000 in
theorem w_lay_X0_1 : u_lay RX0 TX0 1 ∈ hsAll := hs_in 98 (by decide +kernel) (by decide +kernel)
set_option maxRecDepth 100000 in
theorem w_lay_X0_2 : u_lay RX0 TX0 2 ∈ hsAll := hs_in 100 (by decide +kernel) (by decide +kernel)
set_option maxRecDepth 100000 in
theorem w_lay_X0_3 : u_lay RX0 TX0 3 ∈ hsAll := hs_in 102 (by decide +kernel) (by decide +kernel)
set_option maxRecDepth 100000 in
theorem w_lay_X0_4 : u_lay RX0 TX0 4 ∈ hsAll := hs_in 104 (by decide +kernel) (by decide +kernel)
theorem wu_X0 : ∀ w ∈ u_ws RX0 TX0 5, w ∈ hsAll := by
  intro w hw
  obtain ⟨k, hk, rfl⟩ := List.mem_map.mp hw
  have hk := List.mem_range.mp hk
  match k, hk with
  | 0, _ => exact w_lay_X0_0
  | 1, _ => exact w_lay_X0_1
  | 2, _ => exact w_lay_X0_2
  | 3, _ => exact w_lay_X0_3
  | 4, _ => exact w_lay_X0_4
  | n + 5, h => exact absurd h (by omega)
set_option maxRecDepth 100000 in
theorem w_lay_X1_0 : u_lay RX1 TX1 0 ∈ hsAll := hs_in 47 (by decide +kernel) (by decide +kernel)
theorem wu_X1 : ∀ w ∈ u_ws RX1 TX1 1, w ∈ hsAll := by
  intro w hw
  obtain ⟨k, hk, rfl⟩ := List.mem_map.mp hw
  have hk := List.mem_range.mp hk
  match k, hk with
  | 0, _ => exact w_lay_X1_0
  | n + 1, h => exact absurd h (by omega)
set_option maxRecDepth 100000 in
theorem w_lay_X2_0 : u_lay RX2 TX2 0 ∈ hsAll := hs_in 64 (by decide +kernel) (by decide +kernel)
set_option maxRecDepth 100000 in
theorem w_lay_X2_1 : u_lay RX2 TX2 1 ∈ hsAll := hs_in 66 (by decide +kernel) (by decide +kernel)
set_option maxRecDepth 100000 in
theorem w_lay_X2_2 : u_lay RX2 TX2 2 ∈ hsAll := hs_in 68 (by decide +kernel) (by decide +kernel)
set_option maxRecDepth 100000 in
theorem w_lay_X2_3 : u_lay RX2 TX2 3 ∈ hsAll := hs_in 70 (by decide +kernel) (by decide +kernel)
set_option maxRecDepth 100000 in
theorem w_lay_X2_4 : u_lay RX2 TX2 4 ∈ hsAll := hs_in 72 (by decide +kernel) (by decide +kernel)
theorem wu_X2 : ∀ w ∈ u_ws RX2 TX2 5, w ∈ hsAll := by
  intro w hw
  obtain ⟨k, hk, rfl⟩ := List.mem_map.mp hw
  have hk := List.mem_range.mp hk
  match k, hk with
  | 0, _ => exact w_lay_X2_0
  | 1, _ => exact w_lay_X2_1
  | 2, _ => exact w_lay_X2_2
  | 3, _ => exact w_lay_X2_3
  | 4, _ => exact w_lay_X2_4
  | n + 5, h => exact absurd h (by omega)
set_option maxRecDepth 100000 in
theorem w_lay_X3_0 : u_lay RX3 TX3 0 ∈ hsAll := hs_in 84 (by decide +kernel) (by decide +kernel)
set_option maxRecDepth 100000 in
theorem w_lay_X3_1 : u_lay RX3 TX3 1 ∈ hsAll := hs_in 86 (by decide +kernel) (by decide +kernel)
set_option maxRecDepth 100000 in
theorem w_lay_X3_2 : u_lay RX3 TX3 2 ∈ hsAll := hs_in 88 (by decide +kernel) (by decide +kernel)
theorem wu_X3 : ∀ w ∈ u_ws RX3 TX3 3, w ∈ hsAll := by
  intro w hw
  obtain ⟨k, hk, rfl⟩ := List.mem_map.mp hw
  have hk := List.mem_range.mp hk
  match k, hk with
  | 0, _ => exact w_lay_X3_0
  | 1, _ => exact w_lay_X3_1
  | 2, _ => exact w_lay_X3_2
  | n + 3, h => exact absurd h (by omega)
set_option maxRecDepth 100000 in
theorem w_lay_X4_0 : u_lay RX4 TX4 0 ∈ hsAll := hs_in 400 (by decide +kernel) (by decide +kernel)
set_option maxRecDepth 100000 in
theorem w_lay_X4_1 : u_lay RX4 TX4 1 ∈ hsAll := hs_in 402 (by decide +kernel) (by decide +kernel)
set_option maxRecDepth 100000 in
theorem w_lay_X4_2 : u_lay RX4 TX4 2 ∈ hsAll := hs_in 404 (by decide +kernel) (by decide +kernel)
set_option maxRecDepth 100000 in
theorem w_lay_X4_3 : u_lay RX4 TX4 3 ∈ hsAll := hs_in 406 (by decide +kernel) (by decide +kernel)
set_option maxRecDepth 100000 in
theorem w_lay_X4_4 : u_lay RX4 TX4 4 ∈ hsAll := hs_in 408 (by decide +kernel) (by decide +kernel)
set_option maxRecDepth 100000 in
theorem w_lay_X4_5 : u_lay RX4 TX4 5 ∈ hsAll := hs_in 410 (by decide +kernel) (by decide +kernel)
set_option maxRecDepth 100000 in
theorem w_lay_X4_6 : u_lay RX4 TX4 6 ∈ hsAll := hs_in 412 (by decide +kernel) (by decide +kernel)
set_option maxRecDepth 100000 in
theorem w_lay_X4_7 : u_lay RX4 TX4 7 ∈ hsAll := hs_in 414 (by decide +kernel) (by decide +kernel)
theorem wu_X4 : ∀ w ∈ u_ws RX4 TX4 8, w ∈ hsAll := by
  intro w hw
  obtain ⟨k, hk, rfl⟩ := List.mem_map.mp hw
  have hk := List.mem_range.mp hk
  match k, hk with
  | 0, _ => exact w_lay_X4_0
  | 1, _ => exact w_lay_X4_1
  | 2, _ => exact w_lay_X4_2
  | 3, _ => exact w_lay_X4_3
  | 4, _ => exact w_lay_X4_4
  | 5, _ => exact w_lay_X4_5
  | 6, _ => exact w_lay_X4_6
  | 7, _ => exact w_lay_X4_7
  | n + 8, h => exact absurd h (by omega)
