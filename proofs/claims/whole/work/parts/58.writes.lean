set_option maxHeartbeats 4000000 in
set_option maxRecDepth 100000 in
theorem hl_c_turn {p : Program} {l : Launch} {e : Env} {s : State} {m : MethodId} {below : List Frame} {meth : Method} {c : Code} {Q : State → Prop} {D : va_G} {A : Nat → Prop} {cI cC : ClassId} {b L k : Nat} {H0 : Heap} {xs : Nat → Int32} {g : Nat → Nat} {cols : Nat → Nat → Int32} {sol oth : Nat → Nat} {out : Nat} {num : Nat → Int32} {o d t : Nat} {X : HF} {bi wh : Nat → Int32} {Y : HF} {bo : Bool} {w : Nat → Nat} {S : Nat → Nat → Nat → Int32} (h : hsX p m c code 4 s #[Value.ref b] RXL D vwCl (hsT cI cC) A H0) (hX : va_X b L xs s H0) (hbl : b < H0.size) (hbA : ¬ A b) (hL : L ≤ 4096) (hk : 8 * k + 8 ≤ L) (R : hsRel cols sol oth out num o d t bi wh w S) (K : hlK p l e s m below meth c Q D A H0 cI cC b k g) : hsV p l e room_1 s m #[Value.ref b] below meth c Q 4 D vwCl A H0 53 11171 272 (hlL b k (g 0) (g 8)) (hlW g cI cC cols sol oth out num o d t X bi wh Y bo) [] := by
  have hsol : ∀ i, i < 6 → sol i < 20 := fun i hi => Nat.lt_of_lt_of_le (R.inj.s1 i hi) (by decide)
  have hd : d ≤ 12 := by have := R.hdt; omega
  have hoth : ∀ i, i < 12 → oth i < 20 := fun i hi => Nat.lt_of_lt_of_le (R.inj.o1 i hi) (by decide)
  have hout : out < 20 := Nat.lt_of_lt_of_le R.inj.u1 (by decide)
  refine hv_aload_n h dXL_law_272 2 rfl rfl ?_
  refine hv_arg h hX hbl hbA hL 1 (by decide) (by omega) dXL_law_273 dXL_law_274 dXL_law_275 dXL_law_276 dXL_law_277 ?_
  refine hv_arg h hX hbl hbA hL 2 (by decide) (by omega) dXL_law_278 dXL_law_279 dXL_law_280 dXL_law_281 dXL_law_282 ?_
  refine hv_calli h (hr_Vi (n := 2) (rest := []) h 0 rfl rfl (k_X0_turn l D cI cC g cols sol oth out num o d t X.1 X.2.1 (nI X.2.2) (g 8, .inr (hsMi, [.ref (g 9), .int (nI d), .int (nI (d + t)), .ref (g 10), .ref (g 11), .int (nI Y.2.2), .ref (g 12), .int (hx_b bo)])) (g 9, .inl (cI, 4464, .inl bi)) (g 10, .inl (cI, 12, .inl wh)) (g 11, .inl (cI, 144, .inl Y.1)) (g 12, .inl (cI, 1728, .inl Y.2.1)) (xs (8 * k + 1)) (xs (8 * k + 2)) R.ho hd hsol hoth hout R.inj.su) w_methodLink_XL_23 w_instanceMethod_X0_turn w_selects_X0_turn w_initialized_X0 w_code_X0_turn (by decide +kernel) rfl rfl rfl ⟨by decide, by decide⟩ rfl (Nat.le_of_ble_eq_true rfl) ⟨by decide, by decide⟩ dXL_law_283) (fun r1 w1 hp1 => ?_)
  rcases hp1 with ⟨c1, rfl, rfl⟩ | ⟨i0, hi0, e0, c1, rfl, rfl⟩
  · refine hs_ws hl_WM ?_
    refine hv_aload_n h dXL_law_286 1 rfl rfl ?_
    refine hv_arg h hX hbl hbA hL 1 (by decide) (by omega) dXL_law_287 dXL_law_288 dXL_law_289 dXL_law_290 dXL_law_291 ?_
    refine hv_arg h hX hbl hbA hL 2 (by decide) (by omega) dXL_law_292 dXL_law_293 dXL_law_294 dXL_law_295 dXL_law_296 ?_
    refine hv_calli h (hr_Vi (n := 2) (rest := [.int _]) h 8 rfl rfl (k_X4_turn l D cI cC _ _ _ _ _ _ _ _ _ g bi wh Y.1 Y.2.1 d (nI (d + t)) (nI Y.2.2) (hx_b bo) (xs (8 * k + 1)) (xs (8 * k + 2)) hd) w_methodLink_XL_27 w_instanceMethod_X4_turn w_selects_X4_turn w_initialized_X4 w_code_X4_turn (by decide +kernel) rfl rfl rfl ⟨by decide, by decide⟩ rfl (Nat.le_of_ble_eq_true rfl) ⟨by decide, by decide⟩ dXL_law_297) (fun r2 w2 hp2 => ?_)
    rcases hp2 with ⟨c2, rfl, rfl⟩ | ⟨j0, hj0, e2, c2, rfl, rfl⟩
    · refine hs_ws hl_WM.symm ?_
      exact hv_icmp_eq h 1051 dXL_law_300 rfl (fun _ => K _ _ _ _ _ _ _ _ X _ _ Y bo _ _ R) (fun q => absurd rfl q)
    · exact absurd (c1.symm.trans c2) (by decide)
  · refine hs_ws hl_WM ?_
    refine hv_aload_n h dXL_law_286 1 rfl rfl ?_
    refine hv_arg h hX hbl hbA hL 1 (by decide) (by omega) dXL_law_287 dXL_law_288 dXL_law_289 dXL_law_290 dXL_law_291 ?_
    refine hv_arg h hX hbl hbA hL 2 (by decide) (by omega) dXL_law_292 dXL_law_293 dXL_law_294 dXL_law_295 dXL_law_296 ?_
    refine hv_calli h (hr_Vi (n := 2) (rest := [.int _]) h 8 rfl rfl (k_X4_turn l D cI cC _ _ _ _ _ _ _ _ _ g bi wh Y.1 Y.2.1 d (nI (d + t)) (nI Y.2.2) (hx_b bo) (xs (8 * k + 1)) (xs (8 * k + 2)) hd) w_methodLink_XL_27 w_instanceMethod_X4_turn w_selects_X4_turn w_initialized_X4 w_code_X4_turn (by decide +kernel) rfl rfl rfl ⟨by decide, by decide⟩ rfl (Nat.le_of_ble_eq_true rfl) ⟨by decide, by decide⟩ dXL_law_297) (fun r2 w2 hp2 => ?_)
    rcases hp2 with ⟨c2, rfl, rfl⟩ | ⟨j0, hj0, e2, c2, rfl, rfl⟩
    · exact absurd (c1.symm.trans c2) (by decide)
    · refine hs_ws hl_WM.symm ?_
      have eij : i0 = j0 := (nI_eq (by omega) (by omega)).mp (e0.symm.trans e2)
      subst eij
      rw [Bool.and_eq_true] at c1
      have P := hq_turn (R.R hi0) hi0 (hl_in3 c1.2) (cols out) rfl
      obtain ⟨w', S', R'⟩ := R.step hi0 P.1 P.2
      exact hv_icmp_eq h 1051 dXL_law_300 rfl (fun _ => K _ _ _ _ _ _ (hq_d d + 1) 0 X _ _ Y bo w' S' R') (fun q => absurd (hsRel.cnt hd hi0 P.2) q)
set_option maxHeartbeats 4000000 in
set_option maxRecDepth 100000 in
theorem hl_c_join {p : Program} {l : Launch} {e : Env} {s : State} {m : MethodId} {below : List Frame} {meth : Method} {c : Code} {Q : State → Prop} {D : va_G} {A : Nat → Prop} {cI cC : ClassId} {b L k : Nat} {H0 : Heap} {xs : Nat → Int32} {g : Nat → Nat} {cols : Nat → Nat → Int32} {sol oth : Nat → Nat} {out : Nat} {num : Nat → Int32} {o d t : Nat} {X : HF} {bi wh : Nat → Int32} {Y : HF} {bo : Bool} {w : Nat → Nat} {S : Nat → Nat → Nat → Int32} (h : hsX p m c code 4 s #[Value.ref b] RXL D vwCl (hsT cI cC) A H0) (hX : va_X b L xs s H0) (hbl : b < H0.size) (hbA : ¬ A b) (hL : L ≤ 4096) (hk : 8 * k + 8 ≤ L) (R : hsRel cols sol oth out num o d t bi wh w S) (K : hlK p l e s m below meth c Q D A H0 cI cC b k g) : hsV p l e room_1 s m #[Value.ref b] below meth c Q 4 D vwCl A H0 53 11171 219 (hlL b k (g 0) (g 8)) (hlW g cI cC cols sol oth out num o d t X bi wh Y bo) [] := by
  have hsol : ∀ i, i < 6 → sol i < 20 := fun i hi => Nat.lt_of_lt_of_le (R.inj.s1 i hi) (by decide)
  have hd : d ≤ 12 := by have := R.hdt; omega
  have hoth : ∀ i, i < 12 → oth i < 20 := fun i hi => Nat.lt_of_lt_of_le (R.inj.o1 i hi) (by decide)
  have hout : out < 20 := Nat.lt_of_lt_of_le R.inj.u1 (by decide)
  refine hv_aload_n h dXL_law_219 2 rfl rfl ?_
  refine hv_arg h hX hbl hbA hL 1 (by decide) (by omega) dXL_law_220 dXL_law_221 dXL_law_222 dXL_law_223 dXL_law_224 ?_
  refine hv_arg h hX hbl hbA hL 2 (by decide) (by omega) dXL_law_225 dXL_law_226 dXL_law_227 dXL_law_228 dXL_law_229 ?_
  refine hv_arg h hX hbl hbA hL 3 (by decide) (by omega) dXL_law_230 dXL_law_231 dXL_law_232 dXL_law_233 dXL_law_234 ?_
  refine hv_arg h hX hbl hbA hL 4 (by decide) (by omega) dXL_law_235 dXL_law_236 dXL_law_237 dXL_law_238 dXL_law_239 ?_
  refine hv_calli h (hr_Vi (n := 4) (rest := []) h 0 rfl rfl (k_X0_join l D cI cC g cols sol oth out num o d t X.1 X.2.1 (nI X.2.2) (g 8, .inr (hsMi, [.ref (g 9), .int (nI d), .int (nI (d + t)), .ref (g 10), .ref (g 11), .int (nI Y.2.2), .ref (g 12), .int (hx_b bo)])) (g 9, .inl (cI, 4464, .inl bi)) (g 10, .inl (cI, 12, .inl wh)) (g 11, .inl (cI, 144, .inl Y.1)) (g 12, .inl (cI, 1728, .inl Y.2.1)) (xs (8 * k + 1)) (xs (8 * k + 2)) (xs (8 * k + 3)) (xs (8 * k + 4)) R.ho hd hsol hoth hout R.inj.su) w_methodLink_XL_18 w_instanceMethod_X0_join w_selects_X0_join w_initialized_X0 w_code_X0_join (by decide +kernel) rfl rfl rfl ⟨by decide, by decide⟩ rfl (Nat.le_of_ble_eq_true rfl) ⟨by decide, by decide⟩ dXL_law_240) (fun r1 w1 hp1 => ?_)
  rcases hp1 with ⟨c1, rfl, rfl⟩ | ⟨i0, hi0, e0, c1, rfl, rfl⟩
  · refine hs_ws hl_WM ?_
    refine hv_aload_n h dXL_law_243 1 rfl rfl ?_
    refine hv_arg h hX hbl hbA hL 1 (by decide) (by omega) dXL_law_244 dXL_law_245 dXL_law_246 dXL_law_247 dXL_law_248 ?_
    refine hv_arg h hX hbl hbA hL 2 (by decide) (by omega) dXL_law_249 dXL_law_250 dXL_law_251 dXL_law_252 dXL_law_253 ?_
    refine hv_arg h hX hbl hbA hL 3 (by decide) (by omega) dXL_law_254 dXL_law_255 dXL_law_256 dXL_law_257 dXL_law_258 ?_
    refine hv_arg h hX hbl hbA hL 4 (by decide) (by omega) dXL_law_259 dXL_law_260 dXL_law_261 dXL_law_262 dXL_law_263 ?_
    refine hv_calli h (hr_Vi (n := 4) (rest := [.int _]) h 8 rfl rfl (k_X4_join l D cI cC _ _ _ _ _ _ _ _ _ g bi wh Y.1 Y.2.1 d (nI (d + t)) (nI Y.2.2) (hx_b bo) (xs (8 * k + 1)) (xs (8 * k + 2)) (xs (8 * k + 3)) (xs (8 * k + 4)) hd) w_methodLink_XL_22 w_instanceMethod_X4_join w_selects_X4_join w_initialized_X4 w_code_X4_join (by decide +kernel) rfl rfl rfl ⟨by decide, by decide⟩ rfl (Nat.le_of_ble_eq_true rfl) ⟨by decide, by decide⟩ dXL_law_264) (fun r2 w2 hp2 => ?_)
    rcases hp2 with ⟨c2, rfl, rfl⟩ | ⟨j0, hj0, e2, c2, rfl, rfl⟩
    · refine hs_ws hl_WM.symm ?_
      exact hv_icmp_eq h 1051 dXL_law_267 rfl (fun _ => K _ _ _ _ _ _ _ _ X _ _ Y bo _ _ R) (fun q => absurd rfl q)
    · exact absurd (c1.symm.trans c2) (by decide)
  · refine hs_ws hl_WM ?_
    refine hv_aload_n h dXL_law_243 1 rfl rfl ?_
    refine hv_arg h hX hbl hbA hL 1 (by decide) (by omega) dXL_law_244 dXL_law_245 dXL_law_246 dXL_law_247 dXL_law_248 ?_
    refine hv_arg h hX hbl hbA hL 2 (by decide) (by omega) dXL_law_249 dXL_law_250 dXL_law_251 dXL_law_252 dXL_law_253 ?_
    refine hv_arg h hX hbl hbA hL 3 (by decide) (by omega) dXL_law_254 dXL_law_255 dXL_law_256 dXL_law_257 dXL_law_258 ?_
    refine hv_arg h hX hbl hbA hL 4 (by decide) (by omega) dXL_law_259 dXL_law_260 dXL_law_261 dXL_law_262 dXL_law_263 ?_
    refine hv_calli h (hr_Vi (n := 4) (rest := [.int _]) h 8 rfl rfl (k_X4_join l D cI cC _ _ _ _ _ _ _ _ _ g bi wh Y.1 Y.2.1 d (nI (d + t)) (nI Y.2.2) (hx_b bo) (xs (8 * k + 1)) (xs (8 * k + 2)) (xs (8 * k + 3)) (xs (8 * k + 4)) hd) w_methodLink_XL_22 w_instanceMethod_X4_join w_selects_X4_join w_initialized_X4 w_code_X4_join (by decide +kernel) rfl rfl rfl ⟨by decide, by decide⟩ rfl (Nat.le_of_ble_eq_true rfl) ⟨by decide, by decide⟩ dXL_law_264) (fun r2 w2 hp2 => ?_)
    rcases hp2 with ⟨c2, rfl, rfl⟩ | ⟨j0, hj0, e2, c2, rfl, rfl⟩
    · exact absurd (c1.symm.trans c2) (by decide)
    · refine hs_ws hl_WM.symm ?_
      have eij : i0 = j0 := (nI_eq (by omega) (by omega)).mp (e0.symm.trans e2)
      subst eij
      simp only [Bool.and_eq_true] at c1
      have P := hq_join (R.R (hl_in6 c1.2.1)) (R.R (hl_in6 c1.2.2.1)) (hl_in6 c1.2.1) (hl_in6 c1.2.2.1) (xs (8 * k + 4)) (cols out) rfl
      obtain ⟨w', S', R'⟩ := R.step hi0 P.1 P.2
      exact hv_icmp_eq h 1051 dXL_law_267 rfl (fun _ => K _ _ _ _ _ _ (hq_d d + 1) 0 X _ _ Y bo w' S' R') (fun q => absurd (hsRel.cnt hd hi0 P.2) q)
set_option maxHeartbeats 4000000 in
set_option maxRecDepth 100000 in
theorem hl_c_box {p : Program} {l : Launch} {e : Env} {s : State} {m : MethodId} {below : List Frame} {meth : Method} {c : Code} {Q : State → Prop} {D : va_G} {A : Nat → Prop} {cI cC : ClassId} {b L k : Nat} {H0 : Heap} {xs : Nat → Int32} {g : Nat → Nat} {cols : Nat → Nat → Int32} {sol oth : Nat → Nat} {out : Nat} {num : Nat → Int32} {o d t : Nat} {X : HF} {bi wh : Nat → Int32} {Y : HF} {bo : Bool} {w : Nat → Nat} {S : Nat → Nat → Nat → Int32} (h : hsX p m c code 4 s #[Value.ref b] RXL D vwCl (hsT cI cC) A H0) (hX : va_X b L xs s H0) (hbl : b < H0.size) (hbA : ¬ A b) (hL : L ≤ 4096) (hk : 8 * k + 8 ≤ L) (R : hsRel cols sol oth out num o d t bi wh w S) (K : hlK p l e s m below meth c Q D A H0 cI cC b k g) : hsV p l e room_1 s m #[Value.ref b] below meth c Q 4 D vwCl A H0 53 11171 132 (hlL b k (g 0) (g 8)) (hlW g cI cC cols sol oth out num o d t X bi wh Y bo) [] := by
  have hsol : ∀ i, i < 6 → sol i < 20 := fun i hi => Nat.lt_of_lt_of_le (R.inj.s1 i hi) (by decide)
  have hd : d ≤ 12 := by have := R.hdt; omega
  have hoth : ∀ i, i < 12 → oth i < 20 := fun i hi => Nat.lt_of_lt_of_le (R.inj.o1 i hi) (by decide)
  have hout : out < 20 := Nat.lt_of_lt_of_le R.inj.u1 (by decide)
  refine hv_aload_n h dXL_law_132 2 rfl rfl ?_
  refine hv_arg h hX hbl hbA hL 1 (by decide) (by omega) dXL_law_133 dXL_law_134 dXL_law_135 dXL_law_136 dXL_law_137 ?_
  refine hv_arg h hX hbl hbA hL 2 (by decide) (by omega) dXL_law_138 dXL_law_139 dXL_law_140 dXL_law_141 dXL_law_142 ?_
  refine hv_arg h hX hbl hbA hL 3 (by decide) (by omega) dXL_law_143 dXL_law_144 dXL_law_145 dXL_law_146 dXL_law_147 ?_
  refine hv_arg h hX hbl hbA hL 4 (by decide) (by omega) dXL_law_148 dXL_law_149 dXL_law_150 dXL_law_151 dXL_law_152 ?_
  refine hv_arg h hX hbl hbA hL 5 (by decide) (by omega) dXL_law_153 dXL_law_154 dXL_law_155 dXL_law_156 dXL_law_157 ?_
  refine hv_argb h hX hbl hbA hL 6 (by decide) (by omega) dXL_law_158 dXL_law_159 dXL_law_160 dXL_law_162 dXL_law_163 ?_
  refine hv_argb h hX hbl hbA hL 7 (by decide) (by omega) dXL_law_164 dXL_law_165 dXL_law_166 dXL_law_168 dXL_law_169 ?_
  refine hv_calli h (hr_Vi (n := 7) (rest := []) h 0 rfl rfl (k_X0_box l D cI cC g cols sol oth out num o d t X.1 X.2.1 (nI X.2.2) (g 8, .inr (hsMi, [.ref (g 9), .int (nI d), .int (nI (d + t)), .ref (g 10), .ref (g 11), .int (nI Y.2.2), .ref (g 12), .int (hx_b bo)])) (g 9, .inl (cI, 4464, .inl bi)) (g 10, .inl (cI, 12, .inl wh)) (g 11, .inl (cI, 144, .inl Y.1)) (g 12, .inl (cI, 1728, .inl Y.2.1)) (xs (8 * k + 1)) (xs (8 * k + 2)) (xs (8 * k + 3)) (xs (8 * k + 4)) (xs (8 * k + 5)) (xs (8 * k + 6)) (xs (8 * k + 7)) R.ho hd hsol hoth hout R.inj.su) w_methodLink_XL_13 w_instanceMethod_X0_box w_selects_X0_box w_initialized_X0 w_code_X0_box (by decide +kernel) rfl rfl rfl ⟨by decide, by decide⟩ rfl (Nat.le_of_ble_eq_true rfl) ⟨by decide, by decide⟩ dXL_law_170) (fun r1 w1 hp1 => ?_)
  rcases hp1 with ⟨c1, rfl, rfl⟩ | ⟨c1, c1b, rfl, rfl⟩ | ⟨i0, hi0, e0, c1, c1b, rfl, rfl⟩
  · refine hs_ws hl_WM ?_
    refine hv_aload_n h dXL_law_173 1 rfl rfl ?_
    refine hv_arg h hX hbl hbA hL 1 (by decide) (by omega) dXL_law_174 dXL_law_175 dXL_law_176 dXL_law_177 dXL_law_178 ?_
    refine hv_arg h hX hbl hbA hL 2 (by decide) (by omega) dXL_law_179 dXL_law_180 dXL_law_181 dXL_law_182 dXL_law_183 ?_
    refine hv_arg h hX hbl hbA hL 3 (by decide) (by omega) dXL_law_184 dXL_law_185 dXL_law_186 dXL_law_187 dXL_law_188 ?_
    refine hv_arg h hX hbl hbA hL 4 (by decide) (by omega) dXL_law_189 dXL_law_190 dXL_law_191 dXL_law_192 dXL_law_193 ?_
    refine hv_arg h hX hbl hbA hL 5 (by decide) (by omega) dXL_law_194 dXL_law_195 dXL_law_196 dXL_law_197 dXL_law_198 ?_
    refine hv_argb h hX hbl hbA hL 6 (by decide) (by omega) dXL_law_199 dXL_law_200 dXL_law_201 dXL_law_203 dXL_law_204 ?_
    refine hv_argb h hX hbl hbA hL 7 (by decide) (by omega) dXL_law_205 dXL_law_206 dXL_law_207 dXL_law_209 dXL_law_210 ?_
    refine hv_calli h (hr_Vi (n := 7) (rest := [.int _]) h 8 rfl rfl (k_X4_box l D cI cC _ _ _ _ _ _ _ _ _ g bi wh Y.1 Y.2.1 d (nI (d + t)) (nI Y.2.2) (hx_b bo) (xs (8 * k + 1)) (xs (8 * k + 2)) (xs (8 * k + 3)) (xs (8 * k + 4)) (xs (8 * k + 5)) (xs (8 * k + 6)) (xs (8 * k + 7)) hd) w_methodLink_XL_17 w_instanceMethod_X4_box w_selects_X4_box w_initialized_X4 w_code_X4_box (by decide +kernel) rfl rfl rfl ⟨by decide, by decide⟩ rfl (Nat.le_of_ble_eq_true rfl) ⟨by decide, by decide⟩ dXL_law_211) (fun r2 w2 hp2 => ?_)
    rcases hp2 with ⟨c2, rfl, rfl⟩ | ⟨c2, c2b, rfl, rfl⟩ | ⟨j0, hj0, e2, c2, c2b, rfl, rfl⟩
    · refine hs_ws hl_WM.symm ?_
      exact hv_icmp_eq h 1051 dXL_law_214 rfl (fun _ => K _ _ _ _ _ _ _ _ X _ _ Y bo _ _ R) (fun q => absurd rfl q)
    · exact absurd (c1.symm.trans c2) (by decide)
    · exact absurd (c1.symm.trans c2) (by decide)
  · refine hs_ws hl_WM ?_
    refine hv_aload_n h dXL_law_173 1 rfl rfl ?_
    refine hv_arg h hX hbl hbA hL 1 (by decide) (by omega) dXL_law_174 dXL_law_175 dXL_law_176 dXL_law_177 dXL_law_178 ?_
    refine hv_arg h hX hbl hbA hL 2 (by decide) (by omega) dXL_law_179 dXL_law_180 dXL_law_181 dXL_law_182 dXL_law_183 ?_
    refine hv_arg h hX hbl hbA hL 3 (by decide) (by omega) dXL_law_184 dXL_law_185 dXL_law_186 dXL_law_187 dXL_law_188 ?_
    refine hv_arg h hX hbl hbA hL 4 (by decide) (by omega) dXL_law_189 dXL_law_190 dXL_law_191 dXL_law_192 dXL_law_193 ?_
    refine hv_arg h hX hbl hbA hL 5 (by decide) (by omega) dXL_law_194 dXL_law_195 dXL_law_196 dXL_law_197 dXL_law_198 ?_
    refine hv_argb h hX hbl hbA hL 6 (by decide) (by omega) dXL_law_199 dXL_law_200 dXL_law_201 dXL_law_203 dXL_law_204 ?_
    refine hv_argb h hX hbl hbA hL 7 (by decide) (by omega) dXL_law_205 dXL_law_206 dXL_law_207 dXL_law_209 dXL_law_210 ?_
    refine hv_calli h (hr_Vi (n := 7) (rest := [.int _]) h 8 rfl rfl (k_X4_box l D cI cC _ _ _ _ _ _ _ _ _ g bi wh Y.1 Y.2.1 d (nI (d + t)) (nI Y.2.2) (hx_b bo) (xs (8 * k + 1)) (xs (8 * k + 2)) (xs (8 * k + 3)) (xs (8 * k + 4)) (xs (8 * k + 5)) (xs (8 * k + 6)) (xs (8 * k + 7)) hd) w_methodLink_XL_17 w_instanceMethod_X4_box w_selects_X4_box w_initialized_X4 w_code_X4_box (by decide +kernel) rfl rfl rfl ⟨by decide, by decide⟩ rfl (Nat.le_of_ble_eq_true rfl) ⟨by decide, by decide⟩ dXL_law_211) (fun r2 w2 hp2 => ?_)
    rcases hp2 with ⟨c2, rfl, rfl⟩ | ⟨c2, c2b, rfl, rfl⟩ | ⟨j0, hj0, e2, c2, c2b, rfl, rfl⟩
    · exact absurd (c1.symm.trans c2) (by decide)
    · refine hs_ws hl_WM.symm ?_
      exact hv_icmp_eq h 1051 dXL_law_214 rfl (fun _ => K _ _ _ _ _ _ _ _ X _ _ Y bo _ _ R) (fun q => absurd rfl q)
    · exact absurd (c1b.symm.trans ((hl_boxv _ _ _ _ _ _).trans c2b)) (by decide)
  · refine hs_ws hl_WM ?_
    refine hv_aload_n h dXL_law_173 1 rfl rfl ?_
    refine hv_arg h hX hbl hbA hL 1 (by decide) (by omega) dXL_law_174 dXL_law_175 dXL_law_176 dXL_law_177 dXL_law_178 ?_
    refine hv_arg h hX hbl hbA hL 2 (by decide) (by omega) dXL_law_179 dXL_law_180 dXL_law_181 dXL_law_182 dXL_law_183 ?_
    refine hv_arg h hX hbl hbA hL 3 (by decide) (by omega) dXL_law_184 dXL_law_185 dXL_law_186 dXL_law_187 dXL_law_188 ?_
    refine hv_arg h hX hbl hbA hL 4 (by decide) (by omega) dXL_law_189 dXL_law_190 dXL_law_191 dXL_law_192 dXL_law_193 ?_
    refine hv_arg h hX hbl hbA hL 5 (by decide) (by omega) dXL_law_194 dXL_law_195 dXL_law_196 dXL_law_197 dXL_law_198 ?_
    refine hv_argb h hX hbl hbA hL 6 (by decide) (by omega) dXL_law_199 dXL_law_200 dXL_law_201 dXL_law_203 dXL_law_204 ?_
    refine hv_argb h hX hbl hbA hL 7 (by decide) (by omega) dXL_law_205 dXL_law_206 dXL_law_207 dXL_law_209 dXL_law_210 ?_
    refine hv_calli h (hr_Vi (n := 7) (rest := [.int _]) h 8 rfl rfl (k_X4_box l D cI cC _ _ _ _ _ _ _ _ _ g bi wh Y.1 Y.2.1 d (nI (d + t)) (nI Y.2.2) (hx_b bo) (xs (8 * k + 1)) (xs (8 * k + 2)) (xs (8 * k + 3)) (xs (8 * k + 4)) (xs (8 * k + 5)) (xs (8 * k + 6)) (xs (8 * k + 7)) hd) w_methodLink_XL_17 w_instanceMethod_X4_box w_selects_X4_box w_initialized_X4 w_code_X4_box (by decide +kernel) rfl rfl rfl ⟨by decide, by decide⟩ rfl (Nat.le_of_ble_eq_true rfl) ⟨by decide, by decide⟩ dXL_law_211) (fun r2 w2 hp2 => ?_)
    rcases hp2 with ⟨c2, rfl, rfl⟩ | ⟨c2, c2b, rfl, rfl⟩ | ⟨j0, hj0, e2, c2, c2b, rfl, rfl⟩
    · exact absurd (c1.symm.trans c2) (by decide)
    · exact absurd (c1b.symm.trans ((hl_boxv _ _ _ _ _ _).trans c2b)) (by decide)
    · refine hs_ws hl_WM.symm ?_
      have eij : i0 = j0 := (nI_eq (by omega) (by omega)).mp (e0.symm.trans e2)
      subst eij
      have P := hl_box c1b bi (cols out)
      obtain ⟨w', S', R'⟩ := R.step hi0 P.1 P.2
      exact hv_icmp_eq h 1051 dXL_law_214 rfl (fun _ => K _ _ _ _ _ _ (hq_d d + 1) 0 X _ _ Y bo w' S' R') (fun q => absurd (hsRel.cnt hd hi0 P.2) q)
set_option maxHeartbeats 4000000 in
set_option maxRecDepth 100000 in
theorem hl_c_sweep {p : Program} {l : Launch} {e : Env} {s : State} {m : MethodId} {below : List Frame} {meth : Method} {c : Code} {Q : State → Prop} {D : va_G} {A : Nat → Prop} {cI cC : ClassId} {b L k : Nat} {H0 : Heap} {xs : Nat → Int32} {g : Nat → Nat} {cols : Nat → Nat → Int32} {sol oth : Nat → Nat} {out : Nat} {num : Nat → Int32} {o d t : Nat} {X : HF} {bi wh : Nat → Int32} {Y : HF} {bo : Bool} {w : Nat → Nat} {S : Nat → Nat → Nat → Int32} (h : hsX p m c code 4 s #[Value.ref b] RXL D vwCl (hsT cI cC) A H0) (hX : va_X b L xs s H0) (hbl : b < H0.size) (hbA : ¬ A b) (hL : L ≤ 4096) (hk : 8 * k + 8 ≤ L) (R : hsRel cols sol oth out num o d t bi wh w S) (K : hlK p l e s m below meth c Q D A H0 cI cC b k g) : hsV p l e room_1 s m #[Value.ref b] below meth c Q 4 D vwCl A H0 53 11171 391 (hlL b k (g 0) (g 8)) (hlW g cI cC cols sol oth out num o d t X bi wh Y bo) [] := by
  have hsol : ∀ i, i < 6 → sol i < 20 := fun i hi => Nat.lt_of_lt_of_le (R.inj.s1 i hi) (by decide)
  have hd : d ≤ 12 := by have := R.hdt; omega
  have hoth : ∀ i, i < 12 → oth i < 20 := fun i hi => Nat.lt_of_lt_of_le (R.inj.o1 i hi) (by decide)
  have hout : out < 20 := Nat.lt_of_lt_of_le R.inj.u1 (by decide)
  refine hv_aload_n h dXL_law_391 2 rfl rfl ?_
  refine hv_arg h hX hbl hbA hL 1 (by decide) (by omega) dXL_law_392 dXL_law_393 dXL_law_394 dXL_law_395 dXL_law_396 ?_
  refine hv_arg h hX hbl hbA hL 2 (by decide) (by omega) dXL_law_397 dXL_law_398 dXL_law_399 dXL_law_400 dXL_law_401 ?_
  refine hv_arg h hX hbl hbA hL 3 (by decide) (by omega) dXL_law_402 dXL_law_403 dXL_law_404 dXL_law_405 dXL_law_406 ?_
  refine hv_arg h hX hbl hbA hL 4 (by decide) (by omega) dXL_law_407 dXL_law_408 dXL_law_409 dXL_law_410 dXL_law_411 ?_
  refine hv_arg h hX hbl hbA hL 5 (by decide) (by omega) dXL_law_412 dXL_law_413 dXL_law_414 dXL_law_415 dXL_law_416 ?_
  refine hv_argb h hX hbl hbA hL 6 (by decide) (by omega) dXL_law_417 dXL_law_418 dXL_law_419 dXL_law_421 dXL_law_422 ?_
  refine hv_calli h (hr_Vi (n := 6) (rest := []) h 0 rfl rfl (k_X0_sweep l D cI cC g cols sol oth out num o d t X.1 X.2.1 (nI X.2.2) (g 8, .inr (hsMi, [.ref (g 9), .int (nI d), .int (nI (d + t)), .ref (g 10), .ref (g 11), .int (nI Y.2.2), .ref (g 12), .int (hx_b bo)])) (g 9, .inl (cI, 4464, .inl bi)) (g 10, .inl (cI, 12, .inl wh)) (g 11, .inl (cI, 144, .inl Y.1)) (g 12, .inl (cI, 1728, .inl Y.2.1)) (xs (8 * k + 1)) (xs (8 * k + 2)) (xs (8 * k + 3)) (xs (8 * k + 4)) (xs (8 * k + 5)) (xs (8 * k + 6)) R.ho hd hsol hoth hout R.inj.su) w_methodLink_XL_36 w_instanceMethod_X0_sweep w_selects_X0_sweep w_initialized_X0 w_code_X0_sweep (by decide +kernel) rfl rfl rfl ⟨by decide, by decide⟩ rfl (Nat.le_of_ble_eq_true rfl) ⟨by decide, by decide⟩ dXL_law_423) (fun r1 w1 hp1 => ?_)
  rcases hp1 with ⟨c1, rfl, rfl⟩ | ⟨c1, c1b, rfl, rfl⟩ | ⟨i0, hi0, e0, c1, c1b, rfl, rfl⟩
  · refine hs_ws hl_WM ?_
    refine hv_aload_n h dXL_law_426 1 rfl rfl ?_
    refine hv_arg h hX hbl hbA hL 1 (by decide) (by omega) dXL_law_427 dXL_law_428 dXL_law_429 dXL_law_430 dXL_law_431 ?_
    refine hv_arg h hX hbl hbA hL 2 (by decide) (by omega) dXL_law_432 dXL_law_433 dXL_law_434 dXL_law_435 dXL_law_436 ?_
    refine hv_arg h hX hbl hbA hL 3 (by decide) (by omega) dXL_law_437 dXL_law_438 dXL_law_439 dXL_law_440 dXL_law_441 ?_
    refine hv_arg h hX hbl hbA hL 4 (by decide) (by omega) dXL_law_442 dXL_law_443 dXL_law_444 dXL_law_445 dXL_law_446 ?_
    refine hv_arg h hX hbl hbA hL 5 (by decide) (by omega) dXL_law_447 dXL_law_448 dXL_law_449 dXL_law_450 dXL_law_451 ?_
    refine hv_argb h hX hbl hbA hL 6 (by decide) (by omega) dXL_law_452 dXL_law_453 dXL_law_454 dXL_law_456 dXL_law_457 ?_
    refine hv_calli h (hr_Vi (n := 6) (rest := [.int _]) h 8 rfl rfl (k_X4_sweep l D cI cC _ _ _ _ _ _ _ _ _ g bi wh Y.1 Y.2.1 d (nI (d + t)) (nI Y.2.2) (hx_b bo) (xs (8 * k + 1)) (xs (8 * k + 2)) (xs (8 * k + 3)) (xs (8 * k + 4)) (xs (8 * k + 5)) (xs (8 * k + 6)) hd) w_methodLink_XL_40 w_instanceMethod_X4_sweep w_selects_X4_sweep w_initialized_X4 w_code_X4_sweep (by decide +kernel) rfl rfl rfl ⟨by decide, by decide⟩ rfl (Nat.le_of_ble_eq_true rfl) ⟨by decide, by decide⟩ dXL_law_458) (fun r2 w2 hp2 => ?_)
    rcases hp2 with ⟨c2, rfl, rfl⟩ | ⟨c2, c2b, rfl, rfl⟩ | ⟨j0, hj0, e2, c2, c2b, rfl, rfl⟩
    · refine hs_ws hl_WM.symm ?_
      exact hv_icmp_eq h 1051 dXL_law_461 rfl (fun _ => K _ _ _ _ _ _ _ _ X _ _ Y bo _ _ R) (fun q => absurd rfl q)
    · exact absurd (c1.symm.trans c2) (by decide)
    · exact absurd (c1.symm.trans c2) (by decide)
  · refine hs_ws hl_WM ?_
    refine hv_aload_n h dXL_law_426 1 rfl rfl ?_
    refine hv_arg h hX hbl hbA hL 1 (by decide) (by omega) dXL_law_427 dXL_law_428 dXL_law_429 dXL_law_430 dXL_law_431 ?_
    refine hv_arg h hX hbl hbA hL 2 (by decide) (by omega) dXL_law_432 dXL_law_433 dXL_law_434 dXL_law_435 dXL_law_436 ?_
    refine hv_arg h hX hbl hbA hL 3 (by decide) (by omega) dXL_law_437 dXL_law_438 dXL_law_439 dXL_law_440 dXL_law_441 ?_
    refine hv_arg h hX hbl hbA hL 4 (by decide) (by omega) dXL_law_442 dXL_law_443 dXL_law_444 dXL_law_445 dXL_law_446 ?_
    refine hv_arg h hX hbl hbA hL 5 (by decide) (by omega) dXL_law_447 dXL_law_448 dXL_law_449 dXL_law_450 dXL_law_451 ?_
    refine hv_argb h hX hbl hbA hL 6 (by decide) (by omega) dXL_law_452 dXL_law_453 dXL_law_454 dXL_law_456 dXL_law_457 ?_
    refine hv_calli h (hr_Vi (n := 6) (rest := [.int _]) h 8 rfl rfl (k_X4_sweep l D cI cC _ _ _ _ _ _ _ _ _ g bi wh Y.1 Y.2.1 d (nI (d + t)) (nI Y.2.2) (hx_b bo) (xs (8 * k + 1)) (xs (8 * k + 2)) (xs (8 * k + 3)) (xs (8 * k + 4)) (xs (8 * k + 5)) (xs (8 * k + 6)) hd) w_methodLink_XL_40 w_instanceMethod_X4_sweep w_selects_X4_sweep w_initialized_X4 w_code_X4_sweep (by decide +kernel) rfl rfl rfl ⟨by decide, by decide⟩ rfl (Nat.le_of_ble_eq_true rfl) ⟨by decide, by decide⟩ dXL_law_458) (fun r2 w2 hp2 => ?_)
    rcases hp2 with ⟨c2, rfl, rfl⟩ | ⟨c2, c2b, rfl, rfl⟩ | ⟨j0, hj0, e2, c2, c2b, rfl, rfl⟩
    · exact absurd (c1.symm.trans c2) (by decide)
    · refine hs_ws hl_WM.symm ?_
      exact hv_icmp_eq h 1051 dXL_law_461 rfl (fun _ => K _ _ _ _ _ _ _ _ X _ _ Y bo _ _ R) (fun q => absurd rfl q)
    · exact absurd (c1b.symm.trans ((hl_swv _ _).trans c2b)) (by decide)
  · refine hs_ws hl_WM ?_
    refine hv_aload_n h dXL_law_426 1 rfl rfl ?_
    refine hv_arg h hX hbl hbA hL 1 (by decide) (by omega) dXL_law_427 dXL_law_428 dXL_law_429 dXL_law_430 dXL_law_431 ?_
    refine hv_arg h hX hbl hbA hL 2 (by decide) (by omega) dXL_law_432 dXL_law_433 dXL_law_434 dXL_law_435 dXL_law_436 ?_
    refine hv_arg h hX hbl hbA hL 3 (by decide) (by omega) dXL_law_437 dXL_law_438 dXL_law_439 dXL_law_440 dXL_law_441 ?_
    refine hv_arg h hX hbl hbA hL 4 (by decide) (by omega) dXL_law_442 dXL_law_443 dXL_law_444 dXL_law_445 dXL_law_446 ?_
    refine hv_arg h hX hbl hbA hL 5 (by decide) (by omega) dXL_law_447 dXL_law_448 dXL_law_449 dXL_law_450 dXL_law_451 ?_
    refine hv_argb h hX hbl hbA hL 6 (by decide) (by omega) dXL_law_452 dXL_law_453 dXL_law_454 dXL_law_456 dXL_law_457 ?_
    refine hv_calli h (hr_Vi (n := 6) (rest := [.int _]) h 8 rfl rfl (k_X4_sweep l D cI cC _ _ _ _ _ _ _ _ _ g bi wh Y.1 Y.2.1 d (nI (d + t)) (nI Y.2.2) (hx_b bo) (xs (8 * k + 1)) (xs (8 * k + 2)) (xs (8 * k + 3)) (xs (8 * k + 4)) (xs (8 * k + 5)) (xs (8 * k + 6)) hd) w_methodLink_XL_40 w_instanceMethod_X4_sweep w_selects_X4_sweep w_initialized_X4 w_code_X4_sweep (by decide +kernel) rfl rfl rfl ⟨by decide, by decide⟩ rfl (Nat.le_of_ble_eq_true rfl) ⟨by decide, by decide⟩ dXL_law_458) (fun r2 w2 hp2 => ?_)
    rcases hp2 with ⟨c2, rfl, rfl⟩ | ⟨c2, c2b, rfl, rfl⟩ | ⟨j0, hj0, e2, c2, c2b, rfl, rfl⟩
    · exact absurd (c1.symm.trans c2) (by decide)
    · exact absurd (c1b.symm.trans ((hl_swv _ _).trans c2b)) (by decide)
    · refine hs_ws hl_WM.symm ?_
      have eij : i0 = j0 := (nI_eq (by omega) (by omega)).mp (e0.symm.trans e2)
      subst eij
      simp only [Bool.and_eq_true] at c1
      have P := hl_sweep (R.R (hl_in6 c1.2.1)) (hl_in6 c1.2.1) (hl_in3 c1.2.2.1) c1.2.2.2 c1b (cols out)
      obtain ⟨w', S', R'⟩ := R.step hi0 P.1 P.2
      exact hv_icmp_eq h 1051 dXL_law_461 rfl (fun _ => K _ _ _ _ _ _ (hq_d d + 1) 0 X _ _ Y bo w' S' R') (fun q => absurd (hsRel.cnt hd hi0 P.2) q)
set_option maxHeartbeats 4000000 in
set_option maxRecDepth 100000 in
theorem hl_c_shift {p : Program} {l : Launch} {e : Env} {s : State} {m : MethodId} {below : List Frame} {meth : Method} {c : Code} {Q : State → Prop} {D : va_G} {A : Nat → Prop} {cI cC : ClassId} {b L k : Nat} {H0 : Heap} {xs : Nat → Int32} {g : Nat → Nat} {cols : Nat → Nat → Int32} {sol oth : Nat → Nat} {out : Nat} {num : Nat → Int32} {o d t : Nat} {X : HF} {bi wh : Nat → Int32} {Y : HF} {bo : Bool} {w : Nat → Nat} {S : Nat → Nat → Nat → Int32} (h : hsX p m c code 4 s #[Value.ref b] RXL D vwCl (hsT cI cC) A H0) (hX : va_X b L xs s H0) (hbl : b < H0.size) (hbA : ¬ A b) (hL : L ≤ 4096) (hk : 8 * k + 8 ≤ L) (R : hsRel cols sol oth out num o d t bi wh w S) (K : hlK p l e s m below meth c Q D A H0 cI cC b k g) : hsV p l e room_1 s m #[Value.ref b] below meth c Q 4 D vwCl A H0 53 11171 338 (hlL b k (g 0) (g 8)) (hlW g cI cC cols sol oth out num o d t X bi wh Y bo) [] := by
  have hsol : ∀ i, i < 6 → sol i < 20 := fun i hi => Nat.lt_of_lt_of_le (R.inj.s1 i hi) (by decide)
  have hd : d ≤ 12 := by have := R.hdt; omega
  have hoth : ∀ i, i < 12 → oth i < 20 := fun i hi => Nat.lt_of_lt_of_le (R.inj.o1 i hi) (by decide)
  have hout : out < 20 := Nat.lt_of_lt_of_le R.inj.u1 (by decide)
  refine hv_aload_n h dXL_law_338 2 rfl rfl ?_
  refine hv_arg h hX hbl hbA hL 1 (by decide) (by omega) dXL_law_339 dXL_law_340 dXL_law_341 dXL_law_342 dXL_law_343 ?_
  refine hv_arg h hX hbl hbA hL 2 (by decide) (by omega) dXL_law_344 dXL_law_345 dXL_law_346 dXL_law_347 dXL_law_348 ?_
  refine hv_arg h hX hbl hbA hL 3 (by decide) (by omega) dXL_law_349 dXL_law_350 dXL_law_351 dXL_law_352 dXL_law_353 ?_
  refine hv_arg h hX hbl hbA hL 4 (by decide) (by omega) dXL_law_354 dXL_law_355 dXL_law_356 dXL_law_357 dXL_law_358 ?_
  refine hv_calli h (hr_Vi (n := 4) (rest := []) h 0 rfl rfl (k_X0_shift l D cI cC g cols sol oth out num o d t X.1 X.2.1 (nI X.2.2) (g 8, .inr (hsMi, [.ref (g 9), .int (nI d), .int (nI (d + t)), .ref (g 10), .ref (g 11), .int (nI Y.2.2), .ref (g 12), .int (hx_b bo)])) (g 9, .inl (cI, 4464, .inl bi)) (g 10, .inl (cI, 12, .inl wh)) (g 11, .inl (cI, 144, .inl Y.1)) (g 12, .inl (cI, 1728, .inl Y.2.1)) (xs (8 * k + 1)) (xs (8 * k + 2)) (xs (8 * k + 3)) (xs (8 * k + 4)) R.ho hd hsol hoth hout R.inj.su) w_methodLink_XL_32 w_instanceMethod_X0_shift w_selects_X0_shift w_initialized_X0 w_code_X0_shift (by decide +kernel) rfl rfl rfl ⟨by decide, by decide⟩ rfl (Nat.le_of_ble_eq_true rfl) ⟨by decide, by decide⟩ dXL_law_359) (fun r1 w1 hp1 => ?_)
  rcases hp1 with ⟨c1, rfl, rfl⟩ | ⟨c1, c1b, rfl, rfl⟩ | ⟨i0, hi0, e0, c1, c1b, rfl, rfl⟩
  · refine hs_ws hl_WM ?_
    refine hv_aload_n h dXL_law_362 1 rfl rfl ?_
    refine hv_arg h hX hbl hbA hL 1 (by decide) (by omega) dXL_law_363 dXL_law_364 dXL_law_365 dXL_law_366 dXL_law_367 ?_
    refine hv_arg h hX hbl hbA hL 2 (by decide) (by omega) dXL_law_368 dXL_law_369 dXL_law_370 dXL_law_371 dXL_law_372 ?_
    refine hv_arg h hX hbl hbA hL 3 (by decide) (by omega) dXL_law_373 dXL_law_374 dXL_law_375 dXL_law_376 dXL_law_377 ?_
    refine hv_arg h hX hbl hbA hL 4 (by decide) (by omega) dXL_law_378 dXL_law_379 dXL_law_380 dXL_law_381 dXL_law_382 ?_
    refine hv_calli h (hr_Vi (n := 4) (rest := [.int _]) h 8 rfl rfl (k_X4_shift l D cI cC _ _ _ _ _ _ _ _ _ g bi wh Y.1 Y.2.1 d (nI (d + t)) (nI Y.2.2) (hx_b bo) (xs (8 * k + 1)) (xs (8 * k + 2)) (xs (8 * k + 3)) (xs (8 * k + 4)) hd) w_methodLink_XL_35 w_instanceMethod_X4_shift w_selects_X4_shift w_initialized_X4 w_code_X4_shift (by decide +kernel) rfl rfl rfl ⟨by decide, by decide⟩ rfl (Nat.le_of_ble_eq_true rfl) ⟨by decide, by decide⟩ dXL_law_383) (fun r2 w2 hp2 => ?_)
    rcases hp2 with ⟨c2, rfl, rfl⟩ | ⟨j0, kk, hj0, e2, hk2, hbad, rfl, rfl⟩ | ⟨j0, hj0, e2, hall, rfl, rfl⟩
    · refine hs_ws hl_WM.symm ?_
      exact hv_icmp_eq h 1051 dXL_law_386 rfl (fun _ => K _ _ _ _ _ _ _ _ X _ _ Y bo _ _ R) (fun q => absurd rfl q)
    · exact absurd (c1.symm.trans (show hx_in (xs (8 * k + 1)) 6 = true by rw [e2]; exact hx_in_lt (n := 6) hj0 (by decide))) (by decide)
    · exact absurd (c1.symm.trans (show hx_in (xs (8 * k + 1)) 6 = true by rw [e2]; exact hx_in_lt (n := 6) hj0 (by decide))) (by decide)
  · refine hs_ws hl_WM ?_
    refine hv_aload_n h dXL_law_362 1 rfl rfl ?_
    refine hv_arg h hX hbl hbA hL 1 (by decide) (by omega) dXL_law_363 dXL_law_364 dXL_law_365 dXL_law_366 dXL_law_367 ?_
    refine hv_arg h hX hbl hbA hL 2 (by decide) (by omega) dXL_law_368 dXL_law_369 dXL_law_370 dXL_law_371 dXL_law_372 ?_
    refine hv_arg h hX hbl hbA hL 3 (by decide) (by omega) dXL_law_373 dXL_law_374 dXL_law_375 dXL_law_376 dXL_law_377 ?_
    refine hv_arg h hX hbl hbA hL 4 (by decide) (by omega) dXL_law_378 dXL_law_379 dXL_law_380 dXL_law_381 dXL_law_382 ?_
    refine hv_calli h (hr_Vi (n := 4) (rest := [.int _]) h 8 rfl rfl (k_X4_shift l D cI cC _ _ _ _ _ _ _ _ _ g bi wh Y.1 Y.2.1 d (nI (d + t)) (nI Y.2.2) (hx_b bo) (xs (8 * k + 1)) (xs (8 * k + 2)) (xs (8 * k + 3)) (xs (8 * k + 4)) hd) w_methodLink_XL_35 w_instanceMethod_X4_shift w_selects_X4_shift w_initialized_X4 w_code_X4_shift (by decide +kernel) rfl rfl rfl ⟨by decide, by decide⟩ rfl (Nat.le_of_ble_eq_true rfl) ⟨by decide, by decide⟩ dXL_law_383) (fun r2 w2 hp2 => ?_)
    rcases hp2 with ⟨c2, rfl, rfl⟩ | ⟨j0, kk, hj0, e2, hk2, hbad, rfl, rfl⟩ | ⟨j0, hj0, e2, hall, rfl, rfl⟩
    · exact absurd (c1.symm.trans c2) (by decide)
    · refine hs_ws hl_WM.symm ?_
      exact hv_icmp_eq h 1051 dXL_law_386 rfl (fun _ => K _ _ _ _ _ _ _ _ X _ _ Y bo _ _ (R.draft (hy_shf_off bi j0 (xs (8 * k + 2)) (xs (8 * k + 3)) (xs (8 * k + 4)) kk (by omega)))) (fun q => absurd rfl q)
    · rw [e2, nI_clamp (by omega)] at c1b
      exact absurd (c1b.symm.trans ((hz_ok_cls (R.R hj0) hj0 (xs (8 * k + 2)) (xs (8 * k + 3)) (xs (8 * k + 4))).mp ((hz_ok_ref (R.R hj0) hj0 (xs (8 * k + 2)) (xs (8 * k + 3)) (xs (8 * k + 4))).mpr hall))) (by decide)
  · refine hs_ws hl_WM ?_
    refine hv_aload_n h dXL_law_362 1 rfl rfl ?_
    refine hv_arg h hX hbl hbA hL 1 (by decide) (by omega) dXL_law_363 dXL_law_364 dXL_law_365 dXL_law_366 dXL_law_367 ?_
    refine hv_arg h hX hbl hbA hL 2 (by decide) (by omega) dXL_law_368 dXL_law_369 dXL_law_370 dXL_law_371 dXL_law_372 ?_
    refine hv_arg h hX hbl hbA hL 3 (by decide) (by omega) dXL_law_373 dXL_law_374 dXL_law_375 dXL_law_376 dXL_law_377 ?_
    refine hv_arg h hX hbl hbA hL 4 (by decide) (by omega) dXL_law_378 dXL_law_379 dXL_law_380 dXL_law_381 dXL_law_382 ?_
    refine hv_calli h (hr_Vi (n := 4) (rest := [.int _]) h 8 rfl rfl (k_X4_shift l D cI cC _ _ _ _ _ _ _ _ _ g bi wh Y.1 Y.2.1 d (nI (d + t)) (nI Y.2.2) (hx_b bo) (xs (8 * k + 1)) (xs (8 * k + 2)) (xs (8 * k + 3)) (xs (8 * k + 4)) hd) w_methodLink_XL_35 w_instanceMethod_X4_shift w_selects_X4_shift w_initialized_X4 w_code_X4_shift (by decide +kernel) rfl rfl rfl ⟨by decide, by decide⟩ rfl (Nat.le_of_ble_eq_true rfl) ⟨by decide, by decide⟩ dXL_law_383) (fun r2 w2 hp2 => ?_)
    rcases hp2 with ⟨c2, rfl, rfl⟩ | ⟨j0, kk, hj0, e2, hk2, hbad, rfl, rfl⟩ | ⟨j0, hj0, e2, hall, rfl, rfl⟩
    · exact absurd (c1.symm.trans c2) (by decide)
    · rw [e2, nI_clamp (by omega)] at c1b
      exact absurd (hbad.symm.trans ((hz_ok_ref (R.R hj0) hj0 (xs (8 * k + 2)) (xs (8 * k + 3)) (xs (8 * k + 4))).mp ((hz_ok_cls (R.R hj0) hj0 (xs (8 * k + 2)) (xs (8 * k + 3)) (xs (8 * k + 4))).mpr c1b) kk hk2)) (by decide)
    · refine hs_ws hl_WM.symm ?_
      have eij : i0 = j0 := (nI_eq (by omega) (by omega)).mp (e0.symm.trans e2)
      subst eij
      rw [e0, nI_clamp (by omega)] at c1b
      have P := hq_shift (R.R hi0) hi0 ((hz_ok_cls (R.R hi0) hi0 (xs (8 * k + 2)) (xs (8 * k + 3)) (xs (8 * k + 4))).mpr c1b) (cols out) rfl
      obtain ⟨w', S', R'⟩ := R.step hi0 P.1 P.2
      exact hv_icmp_eq h 1051 dXL_law_386 rfl (fun _ => K _ _ _ _ _ _ (hq_d d + 1) 0 X _ _ Y bo w' S' R') (fun q => absurd (hsRel.cnt hd hi0 P.2) q)
set_option maxHeartbeats 4000000 in
set_option maxRecDepth 100000 in
theorem hl_c_undo {p : Program} {l : Launch} {e : Env} {s : State} {m : MethodId} {below : List Frame} {meth : Method} {c : Code} {Q : State → Prop} {D : va_G} {A : Nat → Prop} {cI cC : ClassId} {b L k : Nat} {H0 : Heap} {xs : Nat → Int32} {g : Nat → Nat} {cols : Nat → Nat → Int32} {sol oth : Nat → Nat} {out : Nat} {num : Nat → Int32} {o d t : Nat} {X : HF} {bi wh : Nat → Int32} {Y : HF} {bo : Bool} {w : Nat → Nat} {S : Nat → Nat → Nat → Int32} (h : hsX p m c code 4 s #[Value.ref b] RXL D vwCl (hsT cI cC) A H0) (hX : va_X b L xs s H0) (hbl : b < H0.size) (hbA : ¬ A b) (hL : L ≤ 4096) (hk : 8 * k + 8 ≤ L) (R : hsRel cols sol oth out num o d t bi wh w S) (K : hlK p l e s m below meth c Q D A H0 cI cC b k g) : hsV p l e room_1 s m #[Value.ref b] below meth c Q 4 D vwCl A H0 53 11171 466 (hlL b k (g 0) (g 8)) (hlW g cI cC cols sol oth out num o d t X bi wh Y bo) [] := by
  have hsol : ∀ i, i < 6 → sol i < 20 := fun i hi => Nat.lt_of_lt_of_le (R.inj.s1 i hi) (by decide)
  have hoth : ∀ i, i < 12 → oth i < 20 := fun i hi => Nat.lt_of_lt_of_le (R.inj.o1 i hi) (by decide)
  have hdt := R.hdt
  refine hv_aload_n h dXL_law_466 2 rfl rfl ?_
  cases d with
  | zero =>
    refine hv_callp h (hr_Vi (n := 0) (rest := []) h 0 rfl rfl (k_X0_undo_0 l D cI cC g cols sol oth out num o t X.1 X.2.1 (nI X.2.2) (g 8, .inr (hsMi, [.ref (g 9), .int (nI 0), .int (nI (0 + t)), .ref (g 10), .ref (g 11), .int (nI Y.2.2), .ref (g 12), .int (hx_b bo)])) (g 9, .inl (cI, 4464, .inl bi)) (g 10, .inl (cI, 12, .inl wh)) (g 11, .inl (cI, 144, .inl Y.1)) (g 12, .inl (cI, 1728, .inl Y.2.1))) w_methodLink_XL_41 w_instanceMethod_X0_undo w_selects_X0_undo w_initialized_X0 w_code_X0_undo (by decide +kernel) rfl rfl rfl ⟨by decide, by decide⟩ rfl (Nat.le_of_ble_eq_true rfl) ⟨by decide, by decide⟩ dXL_law_467) ?_
    refine hs_ws hl_WM ?_
    refine hv_aload_n h dXL_law_470 1 rfl rfl ?_
    refine hv_callp h (hr_Vi (n := 0) (rest := [.int _]) h 8 rfl rfl (k_X4_undo_0 l D cI cC _ _ _ _ _ _ _ _ _ g bi wh Y.1 Y.2.1 (nI (0 + t)) (nI Y.2.2) (hx_b bo)) w_methodLink_XL_45 w_instanceMethod_X4_undo w_selects_X4_undo w_initialized_X4 w_code_X4_undo (by decide +kernel) rfl rfl rfl ⟨by decide, by decide⟩ rfl (Nat.le_of_ble_eq_true rfl) ⟨by decide, by decide⟩ dXL_law_471) ?_
    refine hs_ws hl_WM.symm ?_
    exact hv_icmp_eq h 1051 dXL_law_474 rfl (fun _ => K _ _ _ _ _ _ _ _ X _ _ Y bo _ _ R) (fun q => absurd rfl q)
  | succ d =>
    obtain ⟨q1, q2, q3⟩ := R.hw d (by omega)
    refine hv_callp h (hr_Vi (n := 0) (rest := []) h 0 rfl rfl (k_X0_undo_1 l D cI cC g cols sol oth out num o d t X.1 X.2.1 (nI X.2.2) (g 8, .inr (hsMi, [.ref (g 9), .int (nI (d + 1)), .int (nI (d + 1 + t)), .ref (g 10), .ref (g 11), .int (nI Y.2.2), .ref (g 12), .int (hx_b bo)])) (g 9, .inl (cI, 4464, .inl bi)) (g 10, .inl (cI, 12, .inl wh)) (g 11, .inl (cI, 144, .inl Y.1)) (g 12, .inl (cI, 1728, .inl Y.2.1)) (w d) R.ho (by omega) (by omega) q2 q1 hsol hoth) w_methodLink_XL_41 w_instanceMethod_X0_undo w_selects_X0_undo w_initialized_X0 w_code_X0_undo (by decide +kernel) rfl rfl rfl ⟨by decide, by decide⟩ rfl (Nat.le_of_ble_eq_true rfl) ⟨by decide, by decide⟩ dXL_law_467) ?_
    refine hs_ws hl_WM ?_
    refine hv_aload_n h dXL_law_470 1 rfl rfl ?_
    refine hv_callp h (hr_Vi (n := 0) (rest := [.int _]) h 8 rfl rfl (k_X4_undo_1 l D cI cC _ _ _ _ _ _ _ _ _ g bi wh Y.1 Y.2.1 d (w d) (nI (d + 1 + t)) (nI Y.2.2) (hx_b bo) (by omega) q3 q1) w_methodLink_XL_45 w_instanceMethod_X4_undo w_selects_X4_undo w_initialized_X4 w_code_X4_undo (by decide +kernel) rfl rfl rfl ⟨by decide, by decide⟩ rfl (Nat.le_of_ble_eq_true rfl) ⟨by decide, by decide⟩ dXL_law_471) ?_
    rw [show d + 1 + t = d + (t + 1) by omega]
    refine hs_ws hl_WM.symm ?_
    exact hv_icmp_eq h 1051 dXL_law_474 rfl (fun _ => K _ _ _ _ _ _ d (t + 1) X _ _ Y bo _ _ R.undo) (fun q => absurd rfl q)
set_option maxHeartbeats 4000000 in
set_option maxRecDepth 100000 in
theorem hl_c_redo {p : Program} {l : Launch} {e : Env} {s : State} {m : MethodId} {below : List Frame} {meth : Method} {c : Code} {Q : State → Prop} {D : va_G} {A : Nat → Prop} {cI cC : ClassId} {b L k : Nat} {H0 : Heap} {xs : Nat → Int32} {g : Nat → Nat} {cols : Nat → Nat → Int32} {sol oth : Nat → Nat} {out : Nat} {num : Nat → Int32} {o d t : Nat} {X : HF} {bi wh : Nat → Int32} {Y : HF} {bo : Bool} {w : Nat → Nat} {S : Nat → Nat → Nat → Int32} (h : hsX p m c code 4 s #[Value.ref b] RXL D vwCl (hsT cI cC) A H0) (hX : va_X b L xs s H0) (hbl : b < H0.size) (hbA : ¬ A b) (hL : L ≤ 4096) (hk : 8 * k + 8 ≤ L) (R : hsRel cols sol oth out num o d t bi wh w S) (K : hlK p l e s m below meth c Q D A H0 cI cC b k g) : hsV p l e room_1 s m #[Value.ref b] below meth c Q 4 D vwCl A H0 53 11171 479 (hlL b k (g 0) (g 8)) (hlW g cI cC cols sol oth out num o d t X bi wh Y bo) [] := by
  have hsol : ∀ i, i < 6 → sol i < 20 := fun i hi => Nat.lt_of_lt_of_le (R.inj.s1 i hi) (by decide)
  have hoth : ∀ i, i < 12 → oth i < 20 := fun i hi => Nat.lt_of_lt_of_le (R.inj.o1 i hi) (by decide)
  have hdt := R.hdt
  refine hv_aload_n h dXL_law_479 2 rfl rfl ?_
  cases t with
  | zero =>
    refine hv_callp h (hr_Vi (n := 0) (rest := []) h 0 rfl rfl (k_X0_redo_0 l D cI cC g cols sol oth out num o d X.1 X.2.1 (nI X.2.2) (g 8, .inr (hsMi, [.ref (g 9), .int (nI d), .int (nI (d + 0)), .ref (g 10), .ref (g 11), .int (nI Y.2.2), .ref (g 12), .int (hx_b bo)])) (g 9, .inl (cI, 4464, .inl bi)) (g 10, .inl (cI, 12, .inl wh)) (g 11, .inl (cI, 144, .inl Y.1)) (g 12, .inl (cI, 1728, .inl Y.2.1))) w_methodLink_XL_46 w_instanceMethod_X0_redo w_selects_X0_redo w_initialized_X0 w_code_X0_redo (by decide +kernel) rfl rfl rfl ⟨by decide, by decide⟩ rfl (Nat.le_of_ble_eq_true rfl) ⟨by decide, by decide⟩ dXL_law_480) ?_
    refine hs_ws hl_WM ?_
    refine hv_aload_n h dXL_law_483 1 rfl rfl ?_
    refine hv_callp h (hr_Vi (n := 0) (rest := [.int _]) h 8 rfl rfl (k_X4_redo_0 l D cI cC _ _ _ _ _ _ _ _ _ g bi wh Y.1 Y.2.1 d (nI Y.2.2) (hx_b bo)) w_methodLink_XL_49 w_instanceMethod_X4_redo w_selects_X4_redo w_initialized_X4 w_code_X4_redo (by decide +kernel) rfl rfl rfl ⟨by decide, by decide⟩ rfl (Nat.le_of_ble_eq_true rfl) ⟨by decide, by decide⟩ dXL_law_484) ?_
    refine hs_ws hl_WM.symm ?_
    exact hv_icmp_eq h 1051 dXL_law_487 rfl (fun _ => K _ _ _ _ _ _ _ _ X _ _ Y bo _ _ R) (fun q => absurd rfl q)
  | succ t =>
    obtain ⟨q1, q2, q3⟩ := R.hw d (by omega)
    refine hv_callp h (hr_Vi (n := 0) (rest := []) h 0 rfl rfl (k_X0_redo_1 l D cI cC g cols sol oth out num o d t X.1 X.2.1 (nI X.2.2) (g 8, .inr (hsMi, [.ref (g 9), .int (nI d), .int (nI (d + (t + 1))), .ref (g 10), .ref (g 11), .int (nI Y.2.2), .ref (g 12), .int (hx_b bo)])) (g 9, .inl (cI, 4464, .inl bi)) (g 10, .inl (cI, 12, .inl wh)) (g 11, .inl (cI, 144, .inl Y.1)) (g 12, .inl (cI, 1728, .inl Y.2.1)) (w d) R.ho (by omega) (by omega) q2 q1 hsol hoth) w_methodLink_XL_46 w_instanceMethod_X0_redo w_selects_X0_redo w_initialized_X0 w_code_X0_redo (by decide +kernel) rfl rfl rfl ⟨by decide, by decide⟩ rfl (Nat.le_of_ble_eq_true rfl) ⟨by decide, by decide⟩ dXL_law_480) ?_
    refine hs_ws hl_WM ?_
    refine hv_aload_n h dXL_law_483 1 rfl rfl ?_
    refine hv_callp h (hr_Vi (n := 0) (rest := [.int _]) h 8 rfl rfl (k_X4_redo_1 l D cI cC _ _ _ _ _ _ _ _ _ g bi wh Y.1 Y.2.1 d (d + (t + 1)) (w d) (nI Y.2.2) (hx_b bo) (by omega) (by omega) q3 q1) w_methodLink_XL_49 w_instanceMethod_X4_redo w_selects_X4_redo w_initialized_X4 w_code_X4_redo (by decide +kernel) rfl rfl rfl ⟨by decide, by decide⟩ rfl (Nat.le_of_ble_eq_true rfl) ⟨by decide, by decide⟩ dXL_law_484) ?_
    rw [show d + (t + 1) = d + 1 + t by omega]
    refine hs_ws hl_WM.symm ?_
    exact hv_icmp_eq h 1051 dXL_law_487 rfl (fun _ => K _ _ _ _ _ _ (d + 1) t X _ _ Y bo _ _ R.redo) (fun q => absurd rfl q)
set_option maxHeartbeats 4000000 in
set_option maxRecDepth 100000 in
theorem hl_c_mirror {p : Program} {l : Launch} {e : Env} {s : State} {m : MethodId} {below : List Frame} {meth : Method} {c : Code} {Q : State → Prop} {D : va_G} {A : Nat → Prop} {cI cC : ClassId} {b L k : Nat} {H0 : Heap} {xs : Nat → Int32} {g : Nat → Nat} {cols : Nat → Nat → Int32} {sol oth : Nat → Nat} {out : Nat} {num : Nat → Int32} {o d t : Nat} {X : HF} {bi wh : Nat → Int32} {Y : HF} {bo : Bool} {w : Nat → Nat} {S : Nat → Nat → Nat → Int32} (h : hsX p m c code 4 s #[Value.ref b] RXL D vwCl (hsT cI cC) A H0) (hX : va_X b L xs s H0) (hbl : b < H0.size) (hbA : ¬ A b) (hL : L ≤ 4096) (hk : 8 * k + 8 ≤ L) (R : hsRel cols sol oth out num o d t bi wh w S) (K : hlK p l e s m below meth c Q D A H0 cI cC b k g) : hsV p l e room_1 s m #[Value.ref b] below meth c Q 4 D vwCl A H0 53 11171 305 (hlL b k (g 0) (g 8)) (hlW g cI cC cols sol oth out num o d t X bi wh Y bo) [] := by
  have hsol : ∀ i, i < 6 → sol i < 20 := fun i hi => Nat.lt_of_lt_of_le (R.inj.s1 i hi) (by decide)
  have hd : d ≤ 12 := by have := R.hdt; omega
  have hoth : ∀ i, i < 12 → oth i < 20 := fun i hi => Nat.lt_of_lt_of_le (R.inj.o1 i hi) (by decide)
  have hout : out < 20 := Nat.lt_of_lt_of_le R.inj.u1 (by decide)
  refine hv_aload_n h dXL_law_305 2 rfl rfl ?_
  refine hv_arg h hX hbl hbA hL 1 (by decide) (by omega) dXL_law_306 dXL_law_307 dXL_law_308 dXL_law_309 dXL_law_310 ?_
  refine hv_arg h hX hbl hbA hL 2 (by decide) (by omega) dXL_law_311 dXL_law_312 dXL_law_313 dXL_law_314 dXL_law_315 ?_
  refine hv_calli h (hr_Vi (n := 2) (rest := []) h 0 rfl rfl (k_X0_mirror l D cI cC g cols sol oth out num o d t X.1 X.2.1 (nI X.2.2) (g 8, .inr (hsMi, [.ref (g 9), .int (nI d), .int (nI (d + t)), .ref (g 10), .ref (g 11), .int (nI Y.2.2), .ref (g 12), .int (hx_b bo)])) (g 9, .inl (cI, 4464, .inl bi)) (g 10, .inl (cI, 12, .inl wh)) (g 11, .inl (cI, 144, .inl Y.1)) (g 12, .inl (cI, 1728, .inl Y.2.1)) (xs (8 * k + 1)) (xs (8 * k + 2)) R.ho hd hsol hoth hout R.inj.su) w_methodLink_XL_28 w_instanceMethod_X0_mirror w_selects_X0_mirror w_initialized_X0 w_code_X0_mirror (by decide +kernel) rfl rfl rfl ⟨by decide, by decide⟩ rfl (Nat.le_of_ble_eq_true rfl) ⟨by decide, by decide⟩ dXL_law_316) (fun r1 w1 hp1 => ?_)
  rcases hp1 with ⟨c1, rfl, rfl⟩ | ⟨i0, hi0, e0, c1, rfl, rfl⟩
  · refine hs_ws hl_WM ?_
    refine hv_aload_n h dXL_law_319 1 rfl rfl ?_
    refine hv_arg h hX hbl hbA hL 1 (by decide) (by omega) dXL_law_320 dXL_law_321 dXL_law_322 dXL_law_323 dXL_law_324 ?_
    refine hv_arg h hX hbl hbA hL 2 (by decide) (by omega) dXL_law_325 dXL_law_326 dXL_law_327 dXL_law_328 dXL_law_329 ?_
    refine hv_calli h (hr_Vi (n := 2) (rest := [.int _]) h 8 rfl rfl (k_X4_mirror l D cI cC _ _ _ _ _ _ _ _ _ g bi wh Y.1 Y.2.1 d (nI (d + t)) (nI Y.2.2) (hx_b bo) (xs (8 * k + 1)) (xs (8 * k + 2)) hd) w_methodLink_XL_31 w_instanceMethod_X4_mirror w_selects_X4_mirror w_initialized_X4 w_code_X4_mirror (by decide +kernel) rfl rfl rfl ⟨by decide, by decide⟩ rfl (Nat.le_of_ble_eq_true rfl) ⟨by decide, by decide⟩ dXL_law_330) (fun r2 w2 hp2 => ?_)
    rcases hp2 with ⟨c2, rfl, rfl⟩ | ⟨j0, hj0, e2, c2, rfl, rfl⟩
    · refine hs_ws hl_WM.symm ?_
      exact hv_icmp_eq h 1051 dXL_law_333 rfl (fun _ => K _ _ _ _ _ _ _ _ X _ _ Y bo _ _ R) (fun q => absurd rfl q)
    · exact absurd (c1.symm.trans c2) (by decide)
  · refine hs_ws hl_WM ?_
    refine hv_aload_n h dXL_law_319 1 rfl rfl ?_
    refine hv_arg h hX hbl hbA hL 1 (by decide) (by omega) dXL_law_320 dXL_law_321 dXL_law_322 dXL_law_323 dXL_law_324 ?_
    refine hv_arg h hX hbl hbA hL 2 (by decide) (by omega) dXL_law_325 dXL_law_326 dXL_law_327 dXL_law_328 dXL_law_329 ?_
    refine hv_calli h (hr_Vi (n := 2) (rest := [.int _]) h 8 rfl rfl (k_X4_mirror l D cI cC _ _ _ _ _ _ _ _ _ g bi wh Y.1 Y.2.1 d (nI (d + t)) (nI Y.2.2) (hx_b bo) (xs (8 * k + 1)) (xs (8 * k + 2)) hd) w_methodLink_XL_31 w_instanceMethod_X4_mirror w_selects_X4_mirror w_initialized_X4 w_code_X4_mirror (by decide +kernel) rfl rfl rfl ⟨by decide, by decide⟩ rfl (Nat.le_of_ble_eq_true rfl) ⟨by decide, by decide⟩ dXL_law_330) (fun r2 w2 hp2 => ?_)
    rcases hp2 with ⟨c2, rfl, rfl⟩ | ⟨j0, hj0, e2, c2, rfl, rfl⟩
    · exact absurd (c1.symm.trans c2) (by decide)
    · refine hs_ws hl_WM.symm ?_
      have eij : i0 = j0 := (nI_eq (by omega) (by omega)).mp (e0.symm.trans e2)
      subst eij
      rw [Bool.and_eq_true] at c1
      have P := hq_mirror (R.R hi0) hi0 (hl_in3 c1.2) (cols out) rfl
      obtain ⟨w', S', R'⟩ := R.step hi0 P.1 P.2
      exact hv_icmp_eq h 1051 dXL_law_333 rfl (fun _ => K _ _ _ _ _ _ (hq_d d + 1) 0 X _ _ Y bo w' S' R') (fun q => absurd (hsRel.cnt hd hi0 P.2) q)
