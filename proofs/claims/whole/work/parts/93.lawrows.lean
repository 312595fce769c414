/-! the law: its script's rows, and the cases of its switch, a theorem each -/
def zScr (K : zK) (L : Nat) (xs : Nat → Int32) : Prop := match K with
  | (G, _, _, _, _, s, _, _, _, _, _, A, _, _, _) => va_X (G.1 (60, 0, 0)) L xs s s.heap ∧ G.1 (60, 0, 0) < s.heap.size ∧ ¬ A (G.1 (60, 0, 0))
section ZSCR
variable {K : zK} {d nL pc : Nat} {own : String} {cc : ByteArray} {ls sk : List zV} {μ : zM}
theorem z_sld {L : Nat} {xs : Nat → Int32} {j : Nat} {x : Int32} (hX : zScr K L xs) (hx : x = nI j) (hj : j < L) (hL : L ≤ 3072) (dg : decode cc pc = .ok (.iaload, 1)) (k : Z K d own cc nL (pc + 1) ls (zI (xs j) :: sk) μ) : Z K d own cc nL pc ls (zI x :: zR (60, 0, 0) :: sk) μ := by
  obtain ⟨G, p, l, e, R, s, m, args, below, meth, c, A, Q, ce, sl⟩ := K
  intro F H locs la hP hS hl
  obtain ⟨h1, h2, h3⟩ := hX
  subst hx
  refine va_sld F.1 F.2.1 h1 h2 h3 hS (vp_in_nI hj (by omega)) dg ?_
  rw [nI_clamp (by omega)]
  exact k F H locs la hP hS hl
theorem z_slen {L : Nat} {xs : Nat → Int32} (hX : zScr K L xs) (dg : decode cc pc = .ok (.arraylength, 1)) (k : Z K d own cc nL (pc + 1) ls (zI (nI L) :: sk) μ) : Z K d own cc nL pc ls (zR (60, 0, 0) :: sk) μ := by
  obtain ⟨G, p, l, e, R, s, m, args, below, meth, c, A, Q, ce, sl⟩ := K
  intro F H locs la hP hS hl
  obtain ⟨h1, h2, h3⟩ := hX
  exact va_slen F.1 F.2.1 h1 h2 h3 hS dg (k F H locs la hP hS hl)
end ZSCR
theorem lg_self (x : Int64) : lg_cmp x x = 0 := (lg_cmp_eq x x).mpr rfl
abbrev lwL (i : Nat) : List zV := [zR (60, 0, 0), zR (0, 0, 0), zR (20, 0, 0), zI (nI i)]
theorem g_case0 {K : zK} {L : Nat} {xs : Nat → Int32} (hS : zScr K L xs) (hL : L ≤ 3072) (i : Nat) (hi : i + 6 ≤ L) (μ : zM) (hJ : J μ) (k : ∀ μ', J μ' → Z K 9 "DyeTankLaw" code 4 890 (lwL i) [] μ') : Z K 9 "DyeTankLaw" code 4 140 (lwL i) [] μ := by
  have v0 := zv_0
  have v20 := zv_20
  refine z_aload_n dL_law_140 rfl rfl ?_
  refine z_aload_n dL_law_141 rfl rfl ?_
  refine z_iload_n dL_law_142 rfl rfl ?_
  refine z_iconst (v := 1) dL_law_143 (by decide) ?_
  refine z_iadd dL_law_144 ?_
  refine z_sld hS (nI_add i 1) (by omega) hL dL_law_145 ?_
  refine z_cVs (j_setUp μ hJ (xs (i + 1))) q_X3_setUp tw_178 dL_law_146 rfl rfl rfl (by omega) (Nat.le_of_ble_eq_true rfl) (fun μ1 w hm => ?_)
  refine z_aload_n dL_law_149 rfl rfl ?_
  refine z_aload_n dL_law_150 rfl rfl ?_
  refine z_iload_n dL_law_151 rfl rfl ?_
  refine z_iconst (v := 1) dL_law_152 (by decide) ?_
  refine z_iadd dL_law_153 ?_
  refine z_sld hS (nI_add i 1) (by omega) hL dL_law_154 ?_
  refine z_cVs hm q_X4_setUp tw_589 dL_law_155 rfl rfl rfl (by omega) (Nat.le_of_ble_eq_true rfl) (fun μ2 u hh => ?_)
  obtain ⟨hu, hJ2⟩ := hh
  exact z_icmp_eq (tgt := 890) dL_law_158 (by decide) (fun _ => k μ2 hJ2) (fun h9 => absurd hu.symm h9)
theorem g_case1 {K : zK} {L : Nat} {xs : Nat → Int32} (hS : zScr K L xs) (hL : L ≤ 3072) (i : Nat) (hi : i + 6 ≤ L) (μ : zM) (hJ : J μ) (k : ∀ μ', J μ' → Z K 9 "DyeTankLaw" code 4 890 (lwL i) [] μ') : Z K 9 "DyeTankLaw" code 4 163 (lwL i) [] μ := by
  have v0 := zv_0
  have v20 := zv_20
  refine z_aload_n dL_law_163 rfl rfl ?_
  refine z_aload_n dL_law_164 rfl rfl ?_
  refine z_iload_n dL_law_165 rfl rfl ?_
  refine z_iconst (v := 1) dL_law_166 (by decide) ?_
  refine z_iadd dL_law_167 ?_
  refine z_sld hS (nI_add i 1) (by omega) hL dL_law_168 ?_
  refine z_aload_n dL_law_169 rfl rfl ?_
  refine z_iload_n dL_law_170 rfl rfl ?_
  refine z_iconst (v := 2) dL_law_171 (by decide) ?_
  refine z_iadd dL_law_172 ?_
  refine z_sld hS (nI_add i 2) (by omega) hL dL_law_173 ?_
  refine z_cVs (j_set μ hJ (xs (i + 1)) (xs (i + 2))) q_X3_set tw_186 dL_law_174 rfl rfl rfl (by omega) (Nat.le_of_ble_eq_true rfl) (fun μ1 w hm => ?_)
  refine z_aload_n dL_law_177 rfl rfl ?_
  refine z_aload_n dL_law_178 rfl rfl ?_
  refine z_iload_n dL_law_179 rfl rfl ?_
  refine z_iconst (v := 1) dL_law_180 (by decide) ?_
  refine z_iadd dL_law_181 ?_
  refine z_sld hS (nI_add i 1) (by omega) hL dL_law_182 ?_
  refine z_aload_n dL_law_183 rfl rfl ?_
  refine z_iload_n dL_law_184 rfl rfl ?_
  refine z_iconst (v := 2) dL_law_185 (by decide) ?_
  refine z_iadd dL_law_186 ?_
  refine z_sld hS (nI_add i 2) (by omega) hL dL_law_187 ?_
  refine z_cVs hm q_X4_set tw_596 dL_law_188 rfl rfl rfl (by omega) (Nat.le_of_ble_eq_true rfl) (fun μ2 u hh => ?_)
  obtain ⟨hu, hJ2⟩ := hh
  exact z_icmp_eq (tgt := 890) dL_law_191 (by decide) (fun _ => k μ2 hJ2) (fun h9 => absurd hu.symm h9)
theorem g_case2 {K : zK} {L : Nat} {xs : Nat → Int32} (hS : zScr K L xs) (hL : L ≤ 3072) (i : Nat) (hi : i + 6 ≤ L) (μ : zM) (hJ : J μ) (k : ∀ μ', J μ' → Z K 9 "DyeTankLaw" code 4 890 (lwL i) [] μ') : Z K 9 "DyeTankLaw" code 4 196 (lwL i) [] μ := by
  have v0 := zv_0
  have v20 := zv_20
  refine z_aload_n dL_law_196 rfl rfl ?_
  refine z_aload_n dL_law_197 rfl rfl ?_
  refine z_iload_n dL_law_198 rfl rfl ?_
  refine z_iconst (v := 1) dL_law_199 (by decide) ?_
  refine z_iadd dL_law_200 ?_
  refine z_sld hS (nI_add i 1) (by omega) hL dL_law_201 ?_
  refine z_aload_n dL_law_202 rfl rfl ?_
  refine z_iload_n dL_law_203 rfl rfl ?_
  refine z_iconst (v := 2) dL_law_204 (by decide) ?_
  refine z_iadd dL_law_205 ?_
  refine z_sld hS (nI_add i 2) (by omega) hL dL_law_206 ?_
  refine z_cVs (j_spin μ hJ (xs (i + 1)) (xs (i + 2))) q_X3_spin tw_195 dL_law_207 rfl rfl rfl (by omega) (Nat.le_of_ble_eq_true rfl) (fun μ1 w hm => ?_)
  refine z_aload_n dL_law_210 rfl rfl ?_
  refine z_aload_n dL_law_211 rfl rfl ?_
  refine z_iload_n dL_law_212 rfl rfl ?_
  refine z_iconst (v := 1) dL_law_213 (by decide) ?_
  refine z_iadd dL_law_214 ?_
  refine z_sld hS (nI_add i 1) (by omega) hL dL_law_215 ?_
  refine z_aload_n dL_law_216 rfl rfl ?_
  refine z_iload_n dL_law_217 rfl rfl ?_
  refine z_iconst (v := 2) dL_law_218 (by decide) ?_
  refine z_iadd dL_law_219 ?_
  refine z_sld hS (nI_add i 2) (by omega) hL dL_law_220 ?_
  refine z_cVs hm q_X4_spin tw_604 dL_law_221 rfl rfl rfl (by omega) (Nat.le_of_ble_eq_true rfl) (fun μ2 u hh => ?_)
  obtain ⟨hu, hJ2⟩ := hh
  exact z_icmp_eq (tgt := 890) dL_law_224 (by decide) (fun _ => k μ2 hJ2) (fun h9 => absurd hu.symm h9)
theorem g_case3 {K : zK} {L : Nat} {xs : Nat → Int32} (hS : zScr K L xs) (hL : L ≤ 3072) (i : Nat) (hi : i + 6 ≤ L) (μ : zM) (hJ : J μ) (k : ∀ μ', J μ' → Z K 9 "DyeTankLaw" code 4 890 (lwL i) [] μ') : Z K 9 "DyeTankLaw" code 4 229 (lwL i) [] μ := by
  have v0 := zv_0
  have v20 := zv_20
  refine z_aload_n dL_law_229 rfl rfl ?_
  refine z_aload_n dL_law_230 rfl rfl ?_
  refine z_iload_n dL_law_231 rfl rfl ?_
  refine z_iconst (v := 1) dL_law_232 (by decide) ?_
  refine z_iadd dL_law_233 ?_
  refine z_sld hS (nI_add i 1) (by omega) hL dL_law_234 ?_
  refine z_aload_n dL_law_235 rfl rfl ?_
  refine z_iload_n dL_law_236 rfl rfl ?_
  refine z_iconst (v := 2) dL_law_237 (by decide) ?_
  refine z_iadd dL_law_238 ?_
  refine z_sld hS (nI_add i 2) (by omega) hL dL_law_239 ?_
  refine z_cVs (j_spinAll μ hJ (xs (i + 1)) (xs (i + 2))) q_X3_spinAll tw_221 dL_law_240 rfl rfl rfl (by omega) (Nat.le_of_ble_eq_true rfl) (fun μ1 w hm => ?_)
  refine z_aload_n dL_law_243 rfl rfl ?_
  refine z_aload_n dL_law_244 rfl rfl ?_
  refine z_iload_n dL_law_245 rfl rfl ?_
  refine z_iconst (v := 1) dL_law_246 (by decide) ?_
  refine z_iadd dL_law_247 ?_
  refine z_sld hS (nI_add i 1) (by omega) hL dL_law_248 ?_
  refine z_aload_n dL_law_249 rfl rfl ?_
  refine z_iload_n dL_law_250 rfl rfl ?_
  refine z_iconst (v := 2) dL_law_251 (by decide) ?_
  refine z_iadd dL_law_252 ?_
  refine z_sld hS (nI_add i 2) (by omega) hL dL_law_253 ?_
  refine z_cVs hm q_X4_spinAll tw_623 dL_law_254 rfl rfl rfl (by omega) (Nat.le_of_ble_eq_true rfl) (fun μ2 u hh => ?_)
  obtain ⟨hu, hJ2⟩ := hh
  exact z_icmp_eq (tgt := 890) dL_law_257 (by decide) (fun _ => k μ2 hJ2) (fun h9 => absurd hu.symm h9)
theorem g_case4 {K : zK} {L : Nat} {xs : Nat → Int32} (hS : zScr K L xs) (hL : L ≤ 3072) (i : Nat) (hi : i + 6 ≤ L) (μ : zM) (hJ : J μ) (k : ∀ μ', J μ' → Z K 9 "DyeTankLaw" code 4 890 (lwL i) [] μ') : Z K 9 "DyeTankLaw" code 4 262 (lwL i) [] μ := by
  have v0 := zv_0
  have v20 := zv_20
  refine z_aload_n dL_law_262 rfl rfl ?_
  refine z_aload_n dL_law_263 rfl rfl ?_
  refine z_iload_n dL_law_264 rfl rfl ?_
  refine z_iconst (v := 1) dL_law_265 (by decide) ?_
  refine z_iadd dL_law_266 ?_
  refine z_sld hS (nI_add i 1) (by omega) hL dL_law_267 ?_
  refine z_aload_n dL_law_268 rfl rfl ?_
  refine z_iload_n dL_law_269 rfl rfl ?_
  refine z_iconst (v := 2) dL_law_270 (by decide) ?_
  refine z_iadd dL_law_271 ?_
  refine z_sld hS (nI_add i 2) (by omega) hL dL_law_272 ?_
  refine z_aload_n dL_law_273 rfl rfl ?_
  refine z_iload_n dL_law_274 rfl rfl ?_
  refine z_iconst (v := 3) dL_law_275 (by decide) ?_
  refine z_iadd dL_law_276 ?_
  refine z_sld hS (nI_add i 3) (by omega) hL dL_law_277 ?_
  refine z_aload_n dL_law_278 rfl rfl ?_
  refine z_iload_n dL_law_279 rfl rfl ?_
  refine z_iconst (v := 4) dL_law_280 (by decide) ?_
  refine z_iadd dL_law_281 ?_
  refine z_sld hS (nI_add i 4) (by omega) hL dL_law_282 ?_
  refine z_aload_n dL_law_283 rfl rfl ?_
  refine z_iload_n dL_law_284 rfl rfl ?_
  refine z_iconst (v := 5) dL_law_285 (by decide) ?_
  refine z_iadd dL_law_286 ?_
  refine z_sld hS (nI_add i 5) (by omega) hL dL_law_287 ?_
  refine z_cVs (j_pour μ hJ (xs (i + 1)) (xs (i + 2)) (xs (i + 3)) (xs (i + 4)) (xs (i + 5))) q_X3_pour tw_237 dL_law_288 rfl rfl rfl (by omega) (Nat.le_of_ble_eq_true rfl) (fun μ1 w hm => ?_)
  refine z_aload_n dL_law_291 rfl rfl ?_
  refine z_aload_n dL_law_292 rfl rfl ?_
  refine z_iload_n dL_law_293 rfl rfl ?_
  refine z_iconst (v := 1) dL_law_294 (by decide) ?_
  refine z_iadd dL_law_295 ?_
  refine z_sld hS (nI_add i 1) (by omega) hL dL_law_296 ?_
  refine z_aload_n dL_law_297 rfl rfl ?_
  refine z_iload_n dL_law_298 rfl rfl ?_
  refine z_iconst (v := 2) dL_law_299 (by decide) ?_
  refine z_iadd dL_law_300 ?_
  refine z_sld hS (nI_add i 2) (by omega) hL dL_law_301 ?_
  refine z_aload_n dL_law_302 rfl rfl ?_
  refine z_iload_n dL_law_303 rfl rfl ?_
  refine z_iconst (v := 3) dL_law_304 (by decide) ?_
  refine z_iadd dL_law_305 ?_
  refine z_sld hS (nI_add i 3) (by omega) hL dL_law_306 ?_
  refine z_aload_n dL_law_307 rfl rfl ?_
  refine z_iload_n dL_law_308 rfl rfl ?_
  refine z_iconst (v := 4) dL_law_309 (by decide) ?_
  refine z_iadd dL_law_310 ?_
  refine z_sld hS (nI_add i 4) (by omega) hL dL_law_311 ?_
  refine z_aload_n dL_law_312 rfl rfl ?_
  refine z_iload_n dL_law_313 rfl rfl ?_
  refine z_iconst (v := 5) dL_law_314 (by decide) ?_
  refine z_iadd dL_law_315 ?_
  refine z_sld hS (nI_add i 5) (by omega) hL dL_law_316 ?_
  refine z_cVs hm q_X4_pour tw_631 dL_law_317 rfl rfl rfl (by omega) (Nat.le_of_ble_eq_true rfl) (fun μ2 u hh => ?_)
  obtain ⟨hu, hJ2⟩ := hh
  exact z_icmp_eq (tgt := 890) dL_law_320 (by decide) (fun _ => k μ2 hJ2) (fun h9 => absurd hu.symm h9)
theorem g_case5 {K : zK} {L : Nat} {xs : Nat → Int32} (hS : zScr K L xs) (hL : L ≤ 3072) (i : Nat) (hi : i + 6 ≤ L) (μ : zM) (hJ : J μ) (k : ∀ μ', J μ' → Z K 9 "DyeTankLaw" code 4 890 (lwL i) [] μ') : Z K 9 "DyeTankLaw" code 4 325 (lwL i) [] μ := by
  have v0 := zv_0
  have v20 := zv_20
  refine z_aload_n dL_law_325 rfl rfl ?_
  refine z_aload_n dL_law_326 rfl rfl ?_
  refine z_iload_n dL_law_327 rfl rfl ?_
  refine z_iconst (v := 1) dL_law_328 (by decide) ?_
  refine z_iadd dL_law_329 ?_
  refine z_sld hS (nI_add i 1) (by omega) hL dL_law_330 ?_
  refine z_cVs (j_tick μ hJ (xs (i + 1))) q_X3_tick tw_260 dL_law_331 rfl rfl rfl (by omega) (Nat.le_of_ble_eq_true rfl) (fun μ1 w hm => ?_)
  refine z_aload_n dL_law_334 rfl rfl ?_
  refine z_aload_n dL_law_335 rfl rfl ?_
  refine z_iload_n dL_law_336 rfl rfl ?_
  refine z_iconst (v := 1) dL_law_337 (by decide) ?_
  refine z_iadd dL_law_338 ?_
  refine z_sld hS (nI_add i 1) (by omega) hL dL_law_339 ?_
  refine z_cVs hm q_X4_tick tw_659 dL_law_340 rfl rfl rfl (by omega) (Nat.le_of_ble_eq_true rfl) (fun μ2 u hh => ?_)
  obtain ⟨hu, hJ2⟩ := hh
  exact z_icmp_eq (tgt := 890) dL_law_343 (by decide) (fun _ => k μ2 hJ2) (fun h9 => absurd hu.symm h9)
theorem g_case6 {K : zK} {L : Nat} {xs : Nat → Int32} (hS : zScr K L xs) (hL : L ≤ 3072) (i : Nat) (hi : i + 6 ≤ L) (μ : zM) (hJ : J μ) (k : ∀ μ', J μ' → Z K 9 "DyeTankLaw" code 4 890 (lwL i) [] μ') : Z K 9 "DyeTankLaw" code 4 348 (lwL i) [] μ := by
  have v0 := zv_0
  have v20 := zv_20
  refine z_aload_n dL_law_348 rfl rfl ?_
  refine z_aload_n dL_law_349 rfl rfl ?_
  refine z_iload_n dL_law_350 rfl rfl ?_
  refine z_iconst (v := 1) dL_law_351 (by decide) ?_
  refine z_iadd dL_law_352 ?_
  refine z_sld hS (nI_add i 1) (by omega) hL dL_law_353 ?_
  refine z_aload_n dL_law_354 rfl rfl ?_
  refine z_iload_n dL_law_355 rfl rfl ?_
  refine z_iconst (v := 2) dL_law_356 (by decide) ?_
  refine z_iadd dL_law_357 ?_
  refine z_sld hS (nI_add i 2) (by omega) hL dL_law_358 ?_
  refine z_cVs (j_ring μ hJ (xs (i + 1)) (xs (i + 2))) q_X3_ring tw_327 dL_law_359 rfl rfl rfl (by omega) (Nat.le_of_ble_eq_true rfl) (fun μ1 w hm => ?_)
  refine z_aload_n dL_law_362 rfl rfl ?_
  refine z_aload_n dL_law_363 rfl rfl ?_
  refine z_iload_n dL_law_364 rfl rfl ?_
  refine z_iconst (v := 1) dL_law_365 (by decide) ?_
  refine z_iadd dL_law_366 ?_
  refine z_sld hS (nI_add i 1) (by omega) hL dL_law_367 ?_
  refine z_aload_n dL_law_368 rfl rfl ?_
  refine z_iload_n dL_law_369 rfl rfl ?_
  refine z_iconst (v := 2) dL_law_370 (by decide) ?_
  refine z_iadd dL_law_371 ?_
  refine z_sld hS (nI_add i 2) (by omega) hL dL_law_372 ?_
  refine z_cVs hm q_X4_ring tw_694 dL_law_373 rfl rfl rfl (by omega) (Nat.le_of_ble_eq_true rfl) (fun μ2 u hh => ?_)
  obtain ⟨hu, hJ2⟩ := hh
  exact z_icmp_eq (tgt := 890) dL_law_376 (by decide) (fun _ => k μ2 hJ2) (fun h9 => absurd hu.symm h9)
theorem g_case7 {K : zK} {L : Nat} {xs : Nat → Int32} (hS : zScr K L xs) (hL : L ≤ 3072) (i : Nat) (hi : i + 6 ≤ L) (μ : zM) (hJ : J μ) (k : ∀ μ', J μ' → Z K 9 "DyeTankLaw" code 4 890 (lwL i) [] μ') : Z K 9 "DyeTankLaw" code 4 381 (lwL i) [] μ := by
  have v0 := zv_0
  have v20 := zv_20
  refine z_aload_n dL_law_381 rfl rfl ?_
  refine z_aload_n dL_law_382 rfl rfl ?_
  refine z_iload_n dL_law_383 rfl rfl ?_
  refine z_iconst (v := 1) dL_law_384 (by decide) ?_
  refine z_iadd dL_law_385 ?_
  refine z_sld hS (nI_add i 1) (by omega) hL dL_law_386 ?_
  refine z_aload_n dL_law_387 rfl rfl ?_
  refine z_iload_n dL_law_388 rfl rfl ?_
  refine z_iconst (v := 2) dL_law_389 (by decide) ?_
  refine z_iadd dL_law_390 ?_
  refine z_sld hS (nI_add i 2) (by omega) hL dL_law_391 ?_
  refine z_aload_n dL_law_392 rfl rfl ?_
  refine z_iload_n dL_law_393 rfl rfl ?_
  refine z_iconst (v := 3) dL_law_394 (by decide) ?_
  refine z_iadd dL_law_395 ?_
  refine z_sld hS (nI_add i 3) (by omega) hL dL_law_396 ?_
  refine z_aload_n dL_law_397 rfl rfl ?_
  refine z_iload_n dL_law_398 rfl rfl ?_
  refine z_iconst (v := 4) dL_law_399 (by decide) ?_
  refine z_iadd dL_law_400 ?_
  refine z_sld hS (nI_add i 4) (by omega) hL dL_law_401 ?_
  refine z_cVs (j_dye μ hJ (xs (i + 1)) (xs (i + 2)) (xs (i + 3)) (xs (i + 4))) q_X3_dye tw_340 dL_law_402 rfl rfl rfl (by omega) (Nat.le_of_ble_eq_true rfl) (fun μ1 w hm => ?_)
  refine z_aload_n dL_law_405 rfl rfl ?_
  refine z_aload_n dL_law_406 rfl rfl ?_
  refine z_iload_n dL_law_407 rfl rfl ?_
  refine z_iconst (v := 1) dL_law_408 (by decide) ?_
  refine z_iadd dL_law_409 ?_
  refine z_sld hS (nI_add i 1) (by omega) hL dL_law_410 ?_
  refine z_aload_n dL_law_411 rfl rfl ?_
  refine z_iload_n dL_law_412 rfl rfl ?_
  refine z_iconst (v := 2) dL_law_413 (by decide) ?_
  refine z_iadd dL_law_414 ?_
  refine z_sld hS (nI_add i 2) (by omega) hL dL_law_415 ?_
  refine z_aload_n dL_law_416 rfl rfl ?_
  refine z_iload_n dL_law_417 rfl rfl ?_
  refine z_iconst (v := 3) dL_law_418 (by decide) ?_
  refine z_iadd dL_law_419 ?_
  refine z_sld hS (nI_add i 3) (by omega) hL dL_law_420 ?_
  refine z_aload_n dL_law_421 rfl rfl ?_
  refine z_iload_n dL_law_422 rfl rfl ?_
  refine z_iconst (v := 4) dL_law_423 (by decide) ?_
  refine z_iadd dL_law_424 ?_
  refine z_sld hS (nI_add i 4) (by omega) hL dL_law_425 ?_
  refine z_cVs hm q_X4_dye tw_698 dL_law_426 rfl rfl rfl (by omega) (Nat.le_of_ble_eq_true rfl) (fun μ2 u hh => ?_)
  obtain ⟨hu, hJ2⟩ := hh
  exact z_icmp_eq (tgt := 890) dL_law_429 (by decide) (fun _ => k μ2 hJ2) (fun h9 => absurd hu.symm h9)
theorem g_case8 {K : zK} {L : Nat} {xs : Nat → Int32} (hS : zScr K L xs) (hL : L ≤ 3072) (i : Nat) (hi : i + 6 ≤ L) (μ : zM) (hJ : J μ) (k : ∀ μ', J μ' → Z K 9 "DyeTankLaw" code 4 890 (lwL i) [] μ') : Z K 9 "DyeTankLaw" code 4 434 (lwL i) [] μ := by
  have v0 := zv_0
  have v20 := zv_20
  refine z_aload_n dL_law_434 rfl rfl ?_
  refine z_aload_n dL_law_435 rfl rfl ?_
  refine z_iload_n dL_law_436 rfl rfl ?_
  refine z_iconst (v := 1) dL_law_437 (by decide) ?_
  refine z_iadd dL_law_438 ?_
  refine z_sld hS (nI_add i 1) (by omega) hL dL_law_439 ?_
  refine z_aload_n dL_law_440 rfl rfl ?_
  refine z_iload_n dL_law_441 rfl rfl ?_
  refine z_iconst (v := 2) dL_law_442 (by decide) ?_
  refine z_iadd dL_law_443 ?_
  refine z_sld hS (nI_add i 2) (by omega) hL dL_law_444 ?_
  obtain ⟨v, hx, hm⟩ := j_colour μ hJ (xs (i + 1)) (xs (i + 2))
  refine z_cVl hx q_X3_colour tw_344 dL_law_445 rfl rfl rfl (by omega) (Nat.le_of_ble_eq_true rfl) ?_
  refine z_aload_n dL_law_448 rfl rfl ?_
  refine z_aload_n dL_law_449 rfl rfl ?_
  refine z_iload_n dL_law_450 rfl rfl ?_
  refine z_iconst (v := 1) dL_law_451 (by decide) ?_
  refine z_iadd dL_law_452 ?_
  refine z_sld hS (nI_add i 1) (by omega) hL dL_law_453 ?_
  refine z_aload_n dL_law_454 rfl rfl ?_
  refine z_iload_n dL_law_455 rfl rfl ?_
  refine z_iconst (v := 2) dL_law_456 (by decide) ?_
  refine z_iadd dL_law_457 ?_
  refine z_sld hS (nI_add i 2) (by omega) hL dL_law_458 ?_
  refine z_cVl hm q_X4_colour tw_702 dL_law_459 rfl rfl rfl (by omega) (Nat.le_of_ble_eq_true rfl) ?_
  refine z_lcmp dL_law_462 ?_
  exact z_if_eq (tgt := 890) dL_law_463 (by decide) (fun _ => k μ hJ) (fun h9 => absurd (lg_self v) h9)
theorem g_case9 {K : zK} {L : Nat} {xs : Nat → Int32} (hS : zScr K L xs) (hL : L ≤ 3072) (i : Nat) (hi : i + 6 ≤ L) (μ : zM) (hJ : J μ) (k : ∀ μ', J μ' → Z K 9 "DyeTankLaw" code 4 890 (lwL i) [] μ') : Z K 9 "DyeTankLaw" code 4 468 (lwL i) [] μ := by
  have v0 := zv_0
  have v20 := zv_20
  refine z_aload_n dL_law_468 rfl rfl ?_
  refine z_aload_n dL_law_469 rfl rfl ?_
  refine z_iload_n dL_law_470 rfl rfl ?_
  refine z_iconst (v := 1) dL_law_471 (by decide) ?_
  refine z_iadd dL_law_472 ?_
  refine z_sld hS (nI_add i 1) (by omega) hL dL_law_473 ?_
  refine z_cVs (j_state μ hJ (xs (i + 1))) q_X3_state tw_375 dL_law_474 rfl rfl rfl (by omega) (Nat.le_of_ble_eq_true rfl) (fun μ1 w hm => ?_)
  refine z_aload_n dL_law_477 rfl rfl ?_
  refine z_aload_n dL_law_478 rfl rfl ?_
  refine z_iload_n dL_law_479 rfl rfl ?_
  refine z_iconst (v := 1) dL_law_480 (by decide) ?_
  refine z_iadd dL_law_481 ?_
  refine z_sld hS (nI_add i 1) (by omega) hL dL_law_482 ?_
  refine z_cVs hm q_X4_state tw_729 dL_law_483 rfl rfl rfl (by omega) (Nat.le_of_ble_eq_true rfl) (fun μ2 u hh => ?_)
  obtain ⟨hu, hJ2⟩ := hh
  exact z_icmp_eq (tgt := 890) dL_law_486 (by decide) (fun _ => k μ2 hJ2) (fun h9 => absurd hu.symm h9)
theorem g_case10 {K : zK} {L : Nat} {xs : Nat → Int32} (hS : zScr K L xs) (hL : L ≤ 3072) (i : Nat) (hi : i + 6 ≤ L) (μ : zM) (hJ : J μ) (k : ∀ μ', J μ' → Z K 9 "DyeTankLaw" code 4 890 (lwL i) [] μ') : Z K 9 "DyeTankLaw" code 4 491 (lwL i) [] μ := by
  have v0 := zv_0
  have v20 := zv_20
  refine z_aload_n dL_law_491 rfl rfl ?_
  refine z_aload_n dL_law_492 rfl rfl ?_
  refine z_iload_n dL_law_493 rfl rfl ?_
  refine z_iconst (v := 1) dL_law_494 (by decide) ?_
  refine z_iadd dL_law_495 ?_
  refine z_sld hS (nI_add i 1) (by omega) hL dL_law_496 ?_
  refine z_aload_n dL_law_497 rfl rfl ?_
  refine z_iload_n dL_law_498 rfl rfl ?_
  refine z_iconst (v := 2) dL_law_499 (by decide) ?_
  refine z_iadd dL_law_500 ?_
  refine z_sld hS (nI_add i 2) (by omega) hL dL_law_501 ?_
  refine z_cVs (j_marker μ hJ (xs (i + 1)) (xs (i + 2))) q_X3_marker tw_383 dL_law_502 rfl rfl rfl (by omega) (Nat.le_of_ble_eq_true rfl) (fun μ1 w hm => ?_)
  refine z_aload_n dL_law_505 rfl rfl ?_
  refine z_aload_n dL_law_506 rfl rfl ?_
  refine z_iload_n dL_law_507 rfl rfl ?_
  refine z_iconst (v := 1) dL_law_508 (by decide) ?_
  refine z_iadd dL_law_509 ?_
  refine z_sld hS (nI_add i 1) (by omega) hL dL_law_510 ?_
  refine z_aload_n dL_law_511 rfl rfl ?_
  refine z_iload_n dL_law_512 rfl rfl ?_
  refine z_iconst (v := 2) dL_law_513 (by decide) ?_
  refine z_iadd dL_law_514 ?_
  refine z_sld hS (nI_add i 2) (by omega) hL dL_law_515 ?_
  refine z_cVs hm q_X4_marker tw_737 dL_law_516 rfl rfl rfl (by omega) (Nat.le_of_ble_eq_true rfl) (fun μ2 u hh => ?_)
  obtain ⟨hu, hJ2⟩ := hh
  exact z_icmp_eq (tgt := 890) dL_law_519 (by decide) (fun _ => k μ2 hJ2) (fun h9 => absurd hu.symm h9)
theorem g_case11 {K : zK} {L : Nat} {xs : Nat → Int32} (hS : zScr K L xs) (hL : L ≤ 3072) (i : Nat) (hi : i + 6 ≤ L) (μ : zM) (hJ : J μ) (k : ∀ μ', J μ' → Z K 9 "DyeTankLaw" code 4 890 (lwL i) [] μ') : Z K 9 "DyeTankLaw" code 4 524 (lwL i) [] μ := by
  have v0 := zv_0
  have v20 := zv_20
  refine z_aload_n dL_law_524 rfl rfl ?_
  refine z_aload_n dL_law_525 rfl rfl ?_
  refine z_iload_n dL_law_526 rfl rfl ?_
  refine z_iconst (v := 1) dL_law_527 (by decide) ?_
  refine z_iadd dL_law_528 ?_
  refine z_sld hS (nI_add i 1) (by omega) hL dL_law_529 ?_
  refine z_aload_n dL_law_530 rfl rfl ?_
  refine z_iload_n dL_law_531 rfl rfl ?_
  refine z_iconst (v := 2) dL_law_532 (by decide) ?_
  refine z_iadd dL_law_533 ?_
  refine z_sld hS (nI_add i 2) (by omega) hL dL_law_534 ?_
  refine z_cVs (j_where μ hJ (xs (i + 1)) (xs (i + 2))) q_X3_where tw_392 dL_law_535 rfl rfl rfl (by omega) (Nat.le_of_ble_eq_true rfl) (fun μ1 w hm => ?_)
  refine z_aload_n dL_law_538 rfl rfl ?_
  refine z_aload_n dL_law_539 rfl rfl ?_
  refine z_iload_n dL_law_540 rfl rfl ?_
  refine z_iconst (v := 1) dL_law_541 (by decide) ?_
  refine z_iadd dL_law_542 ?_
  refine z_sld hS (nI_add i 1) (by omega) hL dL_law_543 ?_
  refine z_aload_n dL_law_544 rfl rfl ?_
  refine z_iload_n dL_law_545 rfl rfl ?_
  refine z_iconst (v := 2) dL_law_546 (by decide) ?_
  refine z_iadd dL_law_547 ?_
  refine z_sld hS (nI_add i 2) (by omega) hL dL_law_548 ?_
  refine z_cVs hm q_X4_where tw_741 dL_law_549 rfl rfl rfl (by omega) (Nat.le_of_ble_eq_true rfl) (fun μ2 u hh => ?_)
  obtain ⟨hu, hJ2⟩ := hh
  exact z_icmp_eq (tgt := 890) dL_law_552 (by decide) (fun _ => k μ2 hJ2) (fun h9 => absurd hu.symm h9)
theorem g_case12 {K : zK} {L : Nat} {xs : Nat → Int32} (hS : zScr K L xs) (hL : L ≤ 3072) (i : Nat) (hi : i + 6 ≤ L) (μ : zM) (hJ : J μ) (k : ∀ μ', J μ' → Z K 9 "DyeTankLaw" code 4 890 (lwL i) [] μ') : Z K 9 "DyeTankLaw" code 4 557 (lwL i) [] μ := by
  have v0 := zv_0
  have v20 := zv_20
  refine z_aload_n dL_law_557 rfl rfl ?_
  refine z_aload_n dL_law_558 rfl rfl ?_
  refine z_iload_n dL_law_559 rfl rfl ?_
  refine z_iconst (v := 1) dL_law_560 (by decide) ?_
  refine z_iadd dL_law_561 ?_
  refine z_sld hS (nI_add i 1) (by omega) hL dL_law_562 ?_
  refine z_aload_n dL_law_563 rfl rfl ?_
  refine z_iload_n dL_law_564 rfl rfl ?_
  refine z_iconst (v := 2) dL_law_565 (by decide) ?_
  refine z_iadd dL_law_566 ?_
  refine z_sld hS (nI_add i 2) (by omega) hL dL_law_567 ?_
  refine z_aload_n dL_law_568 rfl rfl ?_
  refine z_iload_n dL_law_569 rfl rfl ?_
  refine z_iconst (v := 3) dL_law_570 (by decide) ?_
  refine z_iadd dL_law_571 ?_
  refine z_sld hS (nI_add i 3) (by omega) hL dL_law_572 ?_
  refine z_cVs (j_path μ hJ (xs (i + 1)) (xs (i + 2)) (xs (i + 3))) q_X3_path tw_401 dL_law_573 rfl rfl rfl (by omega) (Nat.le_of_ble_eq_true rfl) (fun μ1 w hm => ?_)
  refine z_aload_n dL_law_576 rfl rfl ?_
  refine z_aload_n dL_law_577 rfl rfl ?_
  refine z_iload_n dL_law_578 rfl rfl ?_
  refine z_iconst (v := 1) dL_law_579 (by decide) ?_
  refine z_iadd dL_law_580 ?_
  refine z_sld hS (nI_add i 1) (by omega) hL dL_law_581 ?_
  refine z_aload_n dL_law_582 rfl rfl ?_
  refine z_iload_n dL_law_583 rfl rfl ?_
  refine z_iconst (v := 2) dL_law_584 (by decide) ?_
  refine z_iadd dL_law_585 ?_
  refine z_sld hS (nI_add i 2) (by omega) hL dL_law_586 ?_
  refine z_aload_n dL_law_587 rfl rfl ?_
  refine z_iload_n dL_law_588 rfl rfl ?_
  refine z_iconst (v := 3) dL_law_589 (by decide) ?_
  refine z_iadd dL_law_590 ?_
  refine z_sld hS (nI_add i 3) (by omega) hL dL_law_591 ?_
  refine z_cVs hm q_X4_path tw_753 dL_law_592 rfl rfl rfl (by omega) (Nat.le_of_ble_eq_true rfl) (fun μ2 u hh => ?_)
  obtain ⟨hu, hJ2⟩ := hh
  exact z_icmp_eq (tgt := 890) dL_law_595 (by decide) (fun _ => k μ2 hJ2) (fun h9 => absurd hu.symm h9)
theorem g_case13 {K : zK} {L : Nat} {xs : Nat → Int32} (hS : zScr K L xs) (hL : L ≤ 3072) (i : Nat) (hi : i + 6 ≤ L) (μ : zM) (hJ : J μ) (k : ∀ μ', J μ' → Z K 9 "DyeTankLaw" code 4 890 (lwL i) [] μ') : Z K 9 "DyeTankLaw" code 4 600 (lwL i) [] μ := by
  have v0 := zv_0
  have v20 := zv_20
  refine z_aload_n dL_law_600 rfl rfl ?_
  refine z_aload_n dL_law_601 rfl rfl ?_
  refine z_iload_n dL_law_602 rfl rfl ?_
  refine z_iconst (v := 1) dL_law_603 (by decide) ?_
  refine z_iadd dL_law_604 ?_
  refine z_sld hS (nI_add i 1) (by omega) hL dL_law_605 ?_
  refine z_aload_n dL_law_606 rfl rfl ?_
  refine z_iload_n dL_law_607 rfl rfl ?_
  refine z_iconst (v := 2) dL_law_608 (by decide) ?_
  refine z_iadd dL_law_609 ?_
  refine z_sld hS (nI_add i 2) (by omega) hL dL_law_610 ?_
  refine z_cVs (j_settles μ hJ (xs (i + 1)) (xs (i + 2))) q_X3_settles tw_413 dL_law_611 rfl rfl rfl (by omega) (Nat.le_of_ble_eq_true rfl) (fun μ1 w hm => ?_)
  refine z_aload_n dL_law_614 rfl rfl ?_
  refine z_aload_n dL_law_615 rfl rfl ?_
  refine z_iload_n dL_law_616 rfl rfl ?_
  refine z_iconst (v := 1) dL_law_617 (by decide) ?_
  refine z_iadd dL_law_618 ?_
  refine z_sld hS (nI_add i 1) (by omega) hL dL_law_619 ?_
  refine z_aload_n dL_law_620 rfl rfl ?_
  refine z_iload_n dL_law_621 rfl rfl ?_
  refine z_iconst (v := 2) dL_law_622 (by decide) ?_
  refine z_iadd dL_law_623 ?_
  refine z_sld hS (nI_add i 2) (by omega) hL dL_law_624 ?_
  refine z_cVs hm q_X4_settles tw_757 dL_law_625 rfl rfl rfl (by omega) (Nat.le_of_ble_eq_true rfl) (fun μ2 u hh => ?_)
  obtain ⟨hu, hJ2⟩ := hh
  exact z_icmp_eq (tgt := 890) dL_law_628 (by decide) (fun _ => k μ2 hJ2) (fun h9 => absurd hu.symm h9)
theorem g_case14 {K : zK} {L : Nat} {xs : Nat → Int32} (hS : zScr K L xs) (hL : L ≤ 3072) (i : Nat) (hi : i + 6 ≤ L) (μ : zM) (hJ : J μ) (k : ∀ μ', J μ' → Z K 9 "DyeTankLaw" code 4 890 (lwL i) [] μ') : Z K 9 "DyeTankLaw" code 4 633 (lwL i) [] μ := by
  have v0 := zv_0
  have v20 := zv_20
  refine z_aload_n dL_law_633 rfl rfl ?_
  refine z_aload_n dL_law_634 rfl rfl ?_
  refine z_iload_n dL_law_635 rfl rfl ?_
  refine z_iconst (v := 1) dL_law_636 (by decide) ?_
  refine z_iadd dL_law_637 ?_
  refine z_sld hS (nI_add i 1) (by omega) hL dL_law_638 ?_
  refine z_aload_n dL_law_639 rfl rfl ?_
  refine z_iload_n dL_law_640 rfl rfl ?_
  refine z_iconst (v := 2) dL_law_641 (by decide) ?_
  refine z_iadd dL_law_642 ?_
  refine z_sld hS (nI_add i 2) (by omega) hL dL_law_643 ?_
  refine z_aload_n dL_law_644 rfl rfl ?_
  refine z_iload_n dL_law_645 rfl rfl ?_
  refine z_iconst (v := 3) dL_law_646 (by decide) ?_
  refine z_iadd dL_law_647 ?_
  refine z_sld hS (nI_add i 3) (by omega) hL dL_law_648 ?_
  refine z_aload_n dL_law_649 rfl rfl ?_
  refine z_iload_n dL_law_650 rfl rfl ?_
  refine z_iconst (v := 4) dL_law_651 (by decide) ?_
  refine z_iadd dL_law_652 ?_
  refine z_sld hS (nI_add i 4) (by omega) hL dL_law_653 ?_
  refine z_cVs (j_arrives μ hJ (xs (i + 1)) (xs (i + 2)) (xs (i + 3)) (xs (i + 4))) q_X3_arrives tw_431 dL_law_654 rfl rfl rfl (by omega) (Nat.le_of_ble_eq_true rfl) (fun μ1 w hm => ?_)
  refine z_aload_n dL_law_657 rfl rfl ?_
  refine z_aload_n dL_law_658 rfl rfl ?_
  refine z_iload_n dL_law_659 rfl rfl ?_
  refine z_iconst (v := 1) dL_law_660 (by decide) ?_
  refine z_iadd dL_law_661 ?_
  refine z_sld hS (nI_add i 1) (by omega) hL dL_law_662 ?_
  refine z_aload_n dL_law_663 rfl rfl ?_
  refine z_iload_n dL_law_664 rfl rfl ?_
  refine z_iconst (v := 2) dL_law_665 (by decide) ?_
  refine z_iadd dL_law_666 ?_
  refine z_sld hS (nI_add i 2) (by omega) hL dL_law_667 ?_
  refine z_aload_n dL_law_668 rfl rfl ?_
  refine z_iload_n dL_law_669 rfl rfl ?_
  refine z_iconst (v := 3) dL_law_670 (by decide) ?_
  refine z_iadd dL_law_671 ?_
  refine z_sld hS (nI_add i 3) (by omega) hL dL_law_672 ?_
  refine z_aload_n dL_law_673 rfl rfl ?_
  refine z_iload_n dL_law_674 rfl rfl ?_
  refine z_iconst (v := 4) dL_law_675 (by decide) ?_
  refine z_iadd dL_law_676 ?_
  refine z_sld hS (nI_add i 4) (by omega) hL dL_law_677 ?_
  refine z_cVs hm q_X4_arrives tw_789 dL_law_678 rfl rfl rfl (by omega) (Nat.le_of_ble_eq_true rfl) (fun μ2 u hh => ?_)
  obtain ⟨hu, hJ2⟩ := hh
  exact z_icmp_eq (tgt := 890) dL_law_681 (by decide) (fun _ => k μ2 hJ2) (fun h9 => absurd hu.symm h9)
theorem g_case15 {K : zK} {L : Nat} {xs : Nat → Int32} (hS : zScr K L xs) (hL : L ≤ 3072) (i : Nat) (hi : i + 6 ≤ L) (μ : zM) (hJ : J μ) (k : ∀ μ', J μ' → Z K 9 "DyeTankLaw" code 4 890 (lwL i) [] μ') : Z K 9 "DyeTankLaw" code 4 686 (lwL i) [] μ := by
  have v0 := zv_0
  have v20 := zv_20
  refine z_aload_n dL_law_686 rfl rfl ?_
  refine z_aload_n dL_law_687 rfl rfl ?_
  refine z_iload_n dL_law_688 rfl rfl ?_
  refine z_iconst (v := 1) dL_law_689 (by decide) ?_
  refine z_iadd dL_law_690 ?_
  refine z_sld hS (nI_add i 1) (by omega) hL dL_law_691 ?_
  refine z_aload_n dL_law_692 rfl rfl ?_
  refine z_iload_n dL_law_693 rfl rfl ?_
  refine z_iconst (v := 2) dL_law_694 (by decide) ?_
  refine z_iadd dL_law_695 ?_
  refine z_sld hS (nI_add i 2) (by omega) hL dL_law_696 ?_
  refine z_aload_n dL_law_697 rfl rfl ?_
  refine z_iload_n dL_law_698 rfl rfl ?_
  refine z_iconst (v := 3) dL_law_699 (by decide) ?_
  refine z_iadd dL_law_700 ?_
  refine z_sld hS (nI_add i 3) (by omega) hL dL_law_701 ?_
  refine z_aload_n dL_law_702 rfl rfl ?_
  refine z_iload_n dL_law_703 rfl rfl ?_
  refine z_iconst (v := 4) dL_law_704 (by decide) ?_
  refine z_iadd dL_law_705 ?_
  refine z_sld hS (nI_add i 4) (by omega) hL dL_law_706 ?_
  refine z_cVs (j_meet μ hJ (xs (i + 1)) (xs (i + 2)) (xs (i + 3)) (xs (i + 4))) q_X3_meet tw_437 dL_law_707 rfl rfl rfl (by omega) (Nat.le_of_ble_eq_true rfl) (fun μ1 w hm => ?_)
  refine z_aload_n dL_law_710 rfl rfl ?_
  refine z_aload_n dL_law_711 rfl rfl ?_
  refine z_iload_n dL_law_712 rfl rfl ?_
  refine z_iconst (v := 1) dL_law_713 (by decide) ?_
  refine z_iadd dL_law_714 ?_
  refine z_sld hS (nI_add i 1) (by omega) hL dL_law_715 ?_
  refine z_aload_n dL_law_716 rfl rfl ?_
  refine z_iload_n dL_law_717 rfl rfl ?_
  refine z_iconst (v := 2) dL_law_718 (by decide) ?_
  refine z_iadd dL_law_719 ?_
  refine z_sld hS (nI_add i 2) (by omega) hL dL_law_720 ?_
  refine z_aload_n dL_law_721 rfl rfl ?_
  refine z_iload_n dL_law_722 rfl rfl ?_
  refine z_iconst (v := 3) dL_law_723 (by decide) ?_
  refine z_iadd dL_law_724 ?_
  refine z_sld hS (nI_add i 3) (by omega) hL dL_law_725 ?_
  refine z_aload_n dL_law_726 rfl rfl ?_
  refine z_iload_n dL_law_727 rfl rfl ?_
  refine z_iconst (v := 4) dL_law_728 (by decide) ?_
  refine z_iadd dL_law_729 ?_
  refine z_sld hS (nI_add i 4) (by omega) hL dL_law_730 ?_
  refine z_cVs hm q_X4_meet tw_793 dL_law_731 rfl rfl rfl (by omega) (Nat.le_of_ble_eq_true rfl) (fun μ2 u hh => ?_)
  obtain ⟨hu, hJ2⟩ := hh
  exact z_icmp_eq (tgt := 890) dL_law_734 (by decide) (fun _ => k μ2 hJ2) (fun h9 => absurd hu.symm h9)
theorem g_case16 {K : zK} {L : Nat} {xs : Nat → Int32} (hS : zScr K L xs) (hL : L ≤ 3072) (i : Nat) (hi : i + 6 ≤ L) (μ : zM) (hJ : J μ) (k : ∀ μ', J μ' → Z K 9 "DyeTankLaw" code 4 890 (lwL i) [] μ') : Z K 9 "DyeTankLaw" code 4 739 (lwL i) [] μ := by
  have v0 := zv_0
  have v20 := zv_20
  refine z_aload_n dL_law_739 rfl rfl ?_
  refine z_aload_n dL_law_740 rfl rfl ?_
  refine z_iload_n dL_law_741 rfl rfl ?_
  refine z_iconst (v := 1) dL_law_742 (by decide) ?_
  refine z_iadd dL_law_743 ?_
  refine z_sld hS (nI_add i 1) (by omega) hL dL_law_744 ?_
  refine z_aload_n dL_law_745 rfl rfl ?_
  refine z_iload_n dL_law_746 rfl rfl ?_
  refine z_iconst (v := 2) dL_law_747 (by decide) ?_
  refine z_iadd dL_law_748 ?_
  refine z_sld hS (nI_add i 2) (by omega) hL dL_law_749 ?_
  refine z_aload_n dL_law_750 rfl rfl ?_
  refine z_iload_n dL_law_751 rfl rfl ?_
  refine z_iconst (v := 3) dL_law_752 (by decide) ?_
  refine z_iadd dL_law_753 ?_
  refine z_sld hS (nI_add i 3) (by omega) hL dL_law_754 ?_
  refine z_cVs (j_leastEkman μ hJ (xs (i + 1)) (xs (i + 2)) (xs (i + 3))) q_X3_leastEkman tw_447 dL_law_755 rfl rfl rfl (by omega) (Nat.le_of_ble_eq_true rfl) (fun μ1 w hm => ?_)
  refine z_aload_n dL_law_758 rfl rfl ?_
  refine z_aload_n dL_law_759 rfl rfl ?_
  refine z_iload_n dL_law_760 rfl rfl ?_
  refine z_iconst (v := 1) dL_law_761 (by decide) ?_
  refine z_iadd dL_law_762 ?_
  refine z_sld hS (nI_add i 1) (by omega) hL dL_law_763 ?_
  refine z_aload_n dL_law_764 rfl rfl ?_
  refine z_iload_n dL_law_765 rfl rfl ?_
  refine z_iconst (v := 2) dL_law_766 (by decide) ?_
  refine z_iadd dL_law_767 ?_
  refine z_sld hS (nI_add i 2) (by omega) hL dL_law_768 ?_
  refine z_aload_n dL_law_769 rfl rfl ?_
  refine z_iload_n dL_law_770 rfl rfl ?_
  refine z_iconst (v := 3) dL_law_771 (by decide) ?_
  refine z_iadd dL_law_772 ?_
  refine z_sld hS (nI_add i 3) (by omega) hL dL_law_773 ?_
  refine z_cVs hm q_X4_leastEkman tw_797 dL_law_774 rfl rfl rfl (by omega) (Nat.le_of_ble_eq_true rfl) (fun μ2 u hh => ?_)
  obtain ⟨hu, hJ2⟩ := hh
  exact z_icmp_eq (tgt := 890) dL_law_777 (by decide) (fun _ => k μ2 hJ2) (fun h9 => absurd hu.symm h9)
theorem g_case17 {K : zK} {L : Nat} {xs : Nat → Int32} (hS : zScr K L xs) (hL : L ≤ 3072) (i : Nat) (hi : i + 6 ≤ L) (μ : zM) (hJ : J μ) (k : ∀ μ', J μ' → Z K 9 "DyeTankLaw" code 4 890 (lwL i) [] μ') : Z K 9 "DyeTankLaw" code 4 782 (lwL i) [] μ := by
  have v0 := zv_0
  have v20 := zv_20
  refine z_aload_n dL_law_782 rfl rfl ?_
  refine z_aload_n dL_law_783 rfl rfl ?_
  refine z_iload_n dL_law_784 rfl rfl ?_
  refine z_iconst (v := 1) dL_law_785 (by decide) ?_
  refine z_iadd dL_law_786 ?_
  refine z_sld hS (nI_add i 1) (by omega) hL dL_law_787 ?_
  refine z_cVs (j_say μ hJ (xs (i + 1))) q_X3_say tw_455 dL_law_788 rfl rfl rfl (by omega) (Nat.le_of_ble_eq_true rfl) (fun μ1 w hm => ?_)
  refine z_aload_n dL_law_791 rfl rfl ?_
  refine z_aload_n dL_law_792 rfl rfl ?_
  refine z_iload_n dL_law_793 rfl rfl ?_
  refine z_iconst (v := 1) dL_law_794 (by decide) ?_
  refine z_iadd dL_law_795 ?_
  refine z_sld hS (nI_add i 1) (by omega) hL dL_law_796 ?_
  refine z_cVs hm q_X4_say tw_801 dL_law_797 rfl rfl rfl (by omega) (Nat.le_of_ble_eq_true rfl) (fun μ2 u hh => ?_)
  obtain ⟨hu, hJ2⟩ := hh
  exact z_icmp_eq (tgt := 890) dL_law_800 (by decide) (fun _ => k μ2 hJ2) (fun h9 => absurd hu.symm h9)
theorem g_case18 {K : zK} {L : Nat} {xs : Nat → Int32} (hS : zScr K L xs) (hL : L ≤ 3072) (i : Nat) (hi : i + 6 ≤ L) (μ : zM) (hJ : J μ) (k : ∀ μ', J μ' → Z K 9 "DyeTankLaw" code 4 890 (lwL i) [] μ') : Z K 9 "DyeTankLaw" code 4 805 (lwL i) [] μ := by
  have v0 := zv_0
  have v20 := zv_20
  refine z_aload_n dL_law_805 rfl rfl ?_
  refine z_cVs (j_wipe μ hJ ) q_X3_wipe tw_463 dL_law_806 rfl rfl rfl (by omega) (Nat.le_of_ble_eq_true rfl) (fun μ1 w hm => ?_)
  refine z_aload_n dL_law_809 rfl rfl ?_
  refine z_cVs hm q_X4_wipe tw_805 dL_law_810 rfl rfl rfl (by omega) (Nat.le_of_ble_eq_true rfl) (fun μ2 u hh => ?_)
  obtain ⟨hu, hJ2⟩ := hh
  exact z_icmp_eq (tgt := 890) dL_law_813 (by decide) (fun _ => k μ2 hJ2) (fun h9 => absurd hu.symm h9)
theorem g_case19 {K : zK} {L : Nat} {xs : Nat → Int32} (hS : zScr K L xs) (hL : L ≤ 3072) (i : Nat) (hi : i + 6 ≤ L) (μ : zM) (hJ : J μ) (k : ∀ μ', J μ' → Z K 9 "DyeTankLaw" code 4 890 (lwL i) [] μ') : Z K 9 "DyeTankLaw" code 4 818 (lwL i) [] μ := by
  have v0 := zv_0
  have v20 := zv_20
  refine z_aload_n dL_law_818 rfl rfl ?_
  refine z_cVs (j_fault μ hJ ) q_X3_fault tw_467 dL_law_819 rfl rfl rfl (by omega) (Nat.le_of_ble_eq_true rfl) (fun μ1 w hm => ?_)
  refine z_aload_n dL_law_822 rfl rfl ?_
  refine z_cVs hm q_X4_fault tw_809 dL_law_823 rfl rfl rfl (by omega) (Nat.le_of_ble_eq_true rfl) (fun μ2 u hh => ?_)
  obtain ⟨hu, hJ2⟩ := hh
  exact z_icmp_eq (tgt := 890) dL_law_826 (by decide) (fun _ => k μ2 hJ2) (fun h9 => absurd hu.symm h9)
theorem g_case20 {K : zK} {L : Nat} {xs : Nat → Int32} (hS : zScr K L xs) (hL : L ≤ 3072) (i : Nat) (hi : i + 6 ≤ L) (μ : zM) (hJ : J μ) (k : ∀ μ', J μ' → Z K 9 "DyeTankLaw" code 4 890 (lwL i) [] μ') : Z K 9 "DyeTankLaw" code 4 831 (lwL i) [] μ := by
  have v0 := zv_0
  have v20 := zv_20
  refine z_aload_n dL_law_831 rfl rfl ?_
  refine z_cVs (j_carryOut μ hJ ) q_X3_carryOut tw_520 dL_law_832 rfl rfl rfl (by omega) (Nat.le_of_ble_eq_true rfl) (fun μ1 w hm => ?_)
  refine z_aload_n dL_law_835 rfl rfl ?_
  refine z_cVs hm q_X4_carryOut tw_842 dL_law_836 rfl rfl rfl (by omega) (Nat.le_of_ble_eq_true rfl) (fun μ2 u hh => ?_)
  obtain ⟨hu, hJ2⟩ := hh
  exact z_icmp_eq (tgt := 890) dL_law_839 (by decide) (fun _ => k μ2 hJ2) (fun h9 => absurd hu.symm h9)
theorem g_case21 {K : zK} {L : Nat} {xs : Nat → Int32} (hS : zScr K L xs) (hL : L ≤ 3072) (i : Nat) (hi : i + 6 ≤ L) (μ : zM) (hJ : J μ) (k : ∀ μ', J μ' → Z K 9 "DyeTankLaw" code 4 890 (lwL i) [] μ') : Z K 9 "DyeTankLaw" code 4 844 (lwL i) [] μ := by
  have v0 := zv_0
  have v20 := zv_20
  refine z_aload_n dL_law_844 rfl rfl ?_
  refine z_aload_n dL_law_845 rfl rfl ?_
  refine z_iload_n dL_law_846 rfl rfl ?_
  refine z_iconst (v := 1) dL_law_847 (by decide) ?_
  refine z_iadd dL_law_848 ?_
  refine z_sld hS (nI_add i 1) (by omega) hL dL_law_849 ?_
  refine z_cVs (j_save μ hJ (xs (i + 1))) q_X3_save tw_534 dL_law_850 rfl rfl rfl (by omega) (Nat.le_of_ble_eq_true rfl) (fun μ1 w hm => ?_)
  refine z_aload_n dL_law_853 rfl rfl ?_
  refine z_aload_n dL_law_854 rfl rfl ?_
  refine z_iload_n dL_law_855 rfl rfl ?_
  refine z_iconst (v := 1) dL_law_856 (by decide) ?_
  refine z_iadd dL_law_857 ?_
  refine z_sld hS (nI_add i 1) (by omega) hL dL_law_858 ?_
  refine z_cVs hm q_X4_save tw_855 dL_law_859 rfl rfl rfl (by omega) (Nat.le_of_ble_eq_true rfl) (fun μ2 u hh => ?_)
  obtain ⟨hu, hJ2⟩ := hh
  exact z_icmp_eq (tgt := 890) dL_law_862 (by decide) (fun _ => k μ2 hJ2) (fun h9 => absurd hu.symm h9)
theorem g_case22 {K : zK} {L : Nat} {xs : Nat → Int32} (hS : zScr K L xs) (hL : L ≤ 3072) (i : Nat) (hi : i + 6 ≤ L) (μ : zM) (hJ : J μ) (k : ∀ μ', J μ' → Z K 9 "DyeTankLaw" code 4 890 (lwL i) [] μ') : Z K 9 "DyeTankLaw" code 4 867 (lwL i) [] μ := by
  have v0 := zv_0
  have v20 := zv_20
  refine z_aload_n dL_law_867 rfl rfl ?_
  refine z_aload_n dL_law_868 rfl rfl ?_
  refine z_iload_n dL_law_869 rfl rfl ?_
  refine z_iconst (v := 1) dL_law_870 (by decide) ?_
  refine z_iadd dL_law_871 ?_
  refine z_sld hS (nI_add i 1) (by omega) hL dL_law_872 ?_
  refine z_cVs (j_restore μ hJ (xs (i + 1))) q_X3_restore tw_538 dL_law_873 rfl rfl rfl (by omega) (Nat.le_of_ble_eq_true rfl) (fun μ1 w hm => ?_)
  refine z_aload_n dL_law_876 rfl rfl ?_
  refine z_aload_n dL_law_877 rfl rfl ?_
  refine z_iload_n dL_law_878 rfl rfl ?_
  refine z_iconst (v := 1) dL_law_879 (by decide) ?_
  refine z_iadd dL_law_880 ?_
  refine z_sld hS (nI_add i 1) (by omega) hL dL_law_881 ?_
  refine z_cVs hm q_X4_restore tw_859 dL_law_882 rfl rfl rfl (by omega) (Nat.le_of_ble_eq_true rfl) (fun μ2 u hh => ?_)
  obtain ⟨hu, hJ2⟩ := hh
  exact z_icmp_eq (tgt := 890) dL_law_885 (by decide) (fun _ => k μ2 hJ2) (fun h9 => absurd hu.symm h9)
