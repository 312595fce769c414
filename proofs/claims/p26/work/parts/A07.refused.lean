/-! refused() of the law -/
theorem far_takes1 {x : Int32} (hx : Far x) : ¬ takesP x 0 := fun q => by
  rcases q with ⟨q | q | q, _⟩ | ⟨q | q, _⟩ | ⟨q, _⟩ | ⟨q, _⟩ <;> exact absurd q (hx.ne (by decide) (by decide))
theorem far_takes2 {x : Int32} (hx : Far x) : ¬ takesP 2 x := fun q => by
  rcases q with ⟨q | q | q, _⟩ | ⟨_, q⟩ | ⟨q, _⟩ | ⟨q, _⟩
  · exact absurd q (by decide)
  · exact absurd q (by decide)
  · exact absurd q (by decide)
  · exact hx.out (by decide) (by decide) q
  · exact absurd q (by decide)
  · exact absurd q (by decide)
theorem state0 {a : rw} {n : Nat} {pm : Int32} : staW a n pm 0 = a 1 := by
  rw [staW, if_neg (by decide), if_pos rfl]
set_option maxRecDepth 100000 in
theorem k_refused {μ : zM} {a : rw} {S : Nat → Option rw} (h : OK μ a S 0) (h1 : a 1 = 0) (v : Int32) (E : xE) : xCs yL_refused method_15_code 5 (some .boolean) 9 0 0 [zR (0, 0, 0), zI v] μ E (fun μ' E' => E' = E ∧ OK μ' a S 0) := by
  refine xCt.of "DyeTankLaw" rfl (by decide +kernel) rfl (Nat.le_of_ble_eq_true rfl) (fun K hR => ?_)
  have tail : ∀ x, Far x → Xj K 9 0 0 "DyeTankLaw" method_15_code 5 24 [zR (0, 0, 0), zI v, zN, zN, zN] [zI x] μ E 0 0 := by
    intro x hx
    refine j_istore_n dL_refused_24 rfl (by decide) rfl ?_
    refine j_ldc (v := -1000000001) dL_refused_25 tw_590 ?_
    refine j_istore_n dL_refused_27 rfl (by decide) rfl ?_
    refine j_ldc (v := -1000000002) dL_refused_28 tw_591 ?_
    refine j_istore dL_refused_30 (by decide) rfl ?_
    refine j_aload_n dL_refused_32 rfl rfl ?_
    refine j_iload_n dL_refused_33 rfl rfl ?_
    refine j_cVi (f_setUp h hx) q_X3_setUp tw_177 dL_refused_34 rfl rfl rfl (by omega) (Nat.le_of_ble_eq_true rfl) (by omega) (by omega) ?_ zv_0
    refine j_bipush (v := -2) dL_refused_37 (by decide) ?_
    refine j_icmp_ne (tgt := 441) dL_refused_39 (by decide) (fun h9 => absurd h9 (fun q => q (by decide))) (fun _ => ?_)
    refine j_aload_n dL_refused_42 rfl rfl ?_
    refine j_iload_n dL_refused_43 rfl rfl ?_
    refine j_iconst (v := 0) dL_refused_44 (by decide) ?_
    refine j_cVi (f_set h (far_takes1 hx)) q_X3_set tw_380 dL_refused_45 rfl rfl rfl (by omega) (Nat.le_of_ble_eq_true rfl) (by omega) (by omega) ?_ zv_0
    refine j_iload dL_refused_48 rfl ?_
    refine j_icmp_ne (tgt := 441) dL_refused_50 (by decide) (fun h9 => absurd h9 (fun q => q (by decide))) (fun _ => ?_)
    refine j_aload_n dL_refused_53 rfl rfl ?_
    refine j_iconst (v := 2) dL_refused_54 (by decide) ?_
    refine j_iload_n dL_refused_55 rfl rfl ?_
    refine j_cVi (f_set h (far_takes2 hx)) q_X3_set tw_380 dL_refused_56 rfl rfl rfl (by omega) (Nat.le_of_ble_eq_true rfl) (by omega) (by omega) ?_ zv_0
    refine j_iload dL_refused_59 rfl ?_
    refine j_icmp_ne (tgt := 441) dL_refused_61 (by decide) (fun h9 => absurd h9 (fun q => q (by decide))) (fun _ => ?_)
    refine j_aload_n dL_refused_64 rfl rfl ?_
    refine j_iload_n dL_refused_65 rfl rfl ?_
    refine j_iconst (v := 0) dL_refused_66 (by decide) ?_
    refine j_cVi (f_spin h hx) q_X3_spin tw_359 dL_refused_67 rfl rfl rfl (by omega) (Nat.le_of_ble_eq_true rfl) (by omega) (by omega) ?_ zv_0
    refine j_iload_n dL_refused_70 rfl rfl ?_
    refine j_icmp_ne (tgt := 441) dL_refused_71 (by decide) (fun h9 => absurd h9 (fun q => q (by decide))) (fun _ => ?_)
    refine j_aload_n dL_refused_74 rfl rfl ?_
    refine j_iconst (v := 0) dL_refused_75 (by decide) ?_
    refine j_iload_n dL_refused_76 rfl rfl ?_
    refine j_cVi (f_spin2 h hx) q_X3_spin tw_359 dL_refused_77 rfl rfl rfl (by omega) (Nat.le_of_ble_eq_true rfl) (by omega) (by omega) ?_ zv_0
    refine j_iload dL_refused_80 rfl ?_
    refine j_icmp_ne (tgt := 441) dL_refused_82 (by decide) (fun h9 => absurd h9 (fun q => q (by decide))) (fun _ => ?_)
    refine j_aload_n dL_refused_85 rfl rfl ?_
    refine j_iload_n dL_refused_86 rfl rfl ?_
    refine j_iconst (v := 0) dL_refused_87 (by decide) ?_
    refine j_cVi (f_spinAll h hx) q_X3_spinAll tw_371 dL_refused_88 rfl rfl rfl (by omega) (Nat.le_of_ble_eq_true rfl) (by omega) (by omega) ?_ zv_0
    refine j_iload dL_refused_91 rfl ?_
    refine j_icmp_ne (tgt := 441) dL_refused_93 (by decide) (fun h9 => absurd h9 (fun q => q (by decide))) (fun _ => ?_)
    refine j_aload_n dL_refused_96 rfl rfl ?_
    refine j_iconst (v := 0) dL_refused_97 (by decide) ?_
    refine j_iload_n dL_refused_98 rfl rfl ?_
    refine j_cVi (f_spinAll2 h hx) q_X3_spinAll tw_371 dL_refused_99 rfl rfl rfl (by omega) (Nat.le_of_ble_eq_true rfl) (by omega) (by omega) ?_ zv_0
    refine j_iload dL_refused_102 rfl ?_
    refine j_icmp_ne (tgt := 441) dL_refused_104 (by decide) (fun h9 => absurd h9 (fun q => q (by decide))) (fun _ => ?_)
    refine j_aload_n dL_refused_107 rfl rfl ?_
    refine j_iload_n dL_refused_108 rfl rfl ?_
    refine j_iconst (v := 0) dL_refused_109 (by decide) ?_
    refine j_iconst (v := 0) dL_refused_110 (by decide) ?_
    refine j_iconst (v := 0) dL_refused_111 (by decide) ?_
    refine j_iconst (v := 1) dL_refused_112 (by decide) ?_
    refine j_cVi (f_pour h (fun q => hx.out (by decide) (by decide) q.1)) q_X3_pour tw_353 dL_refused_113 rfl rfl rfl (by omega) (Nat.le_of_ble_eq_true rfl) (by omega) (by omega) ?_ zv_0
    refine j_iconst (v := -1) dL_refused_116 (by decide) ?_
    refine j_icmp_ne (tgt := 441) dL_refused_117 (by decide) (fun h9 => absurd h9 (fun q => q (by decide))) (fun _ => ?_)
    refine j_aload_n dL_refused_120 rfl rfl ?_
    refine j_iconst (v := 0) dL_refused_121 (by decide) ?_
    refine j_iload_n dL_refused_122 rfl rfl ?_
    refine j_iconst (v := 0) dL_refused_123 (by decide) ?_
    refine j_iconst (v := 0) dL_refused_124 (by decide) ?_
    refine j_iconst (v := 1) dL_refused_125 (by decide) ?_
    refine j_cVi (f_pour h (fun q => hx.out (by decide) (by decide) q.2.1)) q_X3_pour tw_353 dL_refused_126 rfl rfl rfl (by omega) (Nat.le_of_ble_eq_true rfl) (by omega) (by omega) ?_ zv_0
    refine j_iconst (v := -1) dL_refused_129 (by decide) ?_
    refine j_icmp_ne (tgt := 441) dL_refused_130 (by decide) (fun h9 => absurd h9 (fun q => q (by decide))) (fun _ => ?_)
    refine j_aload_n dL_refused_133 rfl rfl ?_
    refine j_iconst (v := 0) dL_refused_134 (by decide) ?_
    refine j_iconst (v := 0) dL_refused_135 (by decide) ?_
    refine j_iload_n dL_refused_136 rfl rfl ?_
    refine j_iconst (v := 0) dL_refused_137 (by decide) ?_
    refine j_iconst (v := 1) dL_refused_138 (by decide) ?_
    refine j_cVi (f_pour h (fun q => hx.out (by decide) (by have := rg_n (Full_n h.2.1).2; omega) q.2.2.1)) q_X3_pour tw_353 dL_refused_139 rfl rfl rfl (by omega) (Nat.le_of_ble_eq_true rfl) (by omega) (by omega) ?_ zv_0
    refine j_iconst (v := -1) dL_refused_142 (by decide) ?_
    refine j_icmp_ne (tgt := 441) dL_refused_143 (by decide) (fun h9 => absurd h9 (fun q => q (by decide))) (fun _ => ?_)
    refine j_aload_n dL_refused_146 rfl rfl ?_
    refine j_iconst (v := 0) dL_refused_147 (by decide) ?_
    refine j_iconst (v := 0) dL_refused_148 (by decide) ?_
    refine j_iconst (v := 0) dL_refused_149 (by decide) ?_
    refine j_iload_n dL_refused_150 rfl rfl ?_
    refine j_iconst (v := 1) dL_refused_151 (by decide) ?_
    refine j_cVi (f_pour h (fun q => hx.out (by decide) (by decide) q.2.2.2)) q_X3_pour tw_353 dL_refused_152 rfl rfl rfl (by omega) (Nat.le_of_ble_eq_true rfl) (by omega) (by omega) ?_ zv_0
    refine j_iconst (v := -1) dL_refused_155 (by decide) ?_
    refine j_icmp_ne (tgt := 441) dL_refused_156 (by decide) (fun h9 => absurd h9 (fun q => q (by decide))) (fun _ => ?_)
    refine j_aload_n dL_refused_159 rfl rfl ?_
    refine j_iconst (v := 0) dL_refused_160 (by decide) ?_
    refine j_iconst (v := 0) dL_refused_161 (by decide) ?_
    refine j_iconst (v := 0) dL_refused_162 (by decide) ?_
    refine j_iconst (v := 0) dL_refused_163 (by decide) ?_
    refine j_iload_n dL_refused_164 rfl rfl ?_
    refine j_cVi (f_pour2 h hx) q_X3_pour tw_353 dL_refused_165 rfl rfl rfl (by omega) (Nat.le_of_ble_eq_true rfl) (by omega) (by omega) ?_ zv_0
    refine j_bipush (v := -2) dL_refused_168 (by decide) ?_
    refine j_icmp_ne (tgt := 441) dL_refused_170 (by decide) (fun h9 => absurd h9 (fun q => q (by decide))) (fun _ => ?_)
    refine j_aload_n dL_refused_173 rfl rfl ?_
    refine j_iload_n dL_refused_174 rfl rfl ?_
    refine j_cVi (f_tick h hx) q_X3_tick tw_268 dL_refused_175 rfl rfl rfl (by omega) (Nat.le_of_ble_eq_true rfl) (by omega) (by omega) ?_ zv_0
    refine j_bipush (v := -2) dL_refused_178 (by decide) ?_
    refine j_icmp_ne (tgt := 441) dL_refused_180 (by decide) (fun h9 => absurd h9 (fun q => q (by decide))) (fun _ => ?_)
    refine j_aload_n dL_refused_183 rfl rfl ?_
    refine j_iload_n dL_refused_184 rfl rfl ?_
    refine j_iconst (v := 0) dL_refused_185 (by decide) ?_
    refine j_cVi (f_ring h hx) q_X3_ring tw_228 dL_refused_186 rfl rfl rfl (by omega) (Nat.le_of_ble_eq_true rfl) (by omega) (by omega) ?_ zv_0
    refine j_iload_n dL_refused_189 rfl rfl ?_
    refine j_icmp_ne (tgt := 441) dL_refused_190 (by decide) (fun h9 => absurd h9 (fun q => q (by decide))) (fun _ => ?_)
    refine j_aload_n dL_refused_193 rfl rfl ?_
    refine j_iconst (v := 0) dL_refused_194 (by decide) ?_
    refine j_iload_n dL_refused_195 rfl rfl ?_
    refine j_cVi (f_ring2 h hx) q_X3_ring tw_228 dL_refused_196 rfl rfl rfl (by omega) (Nat.le_of_ble_eq_true rfl) (by omega) (by omega) ?_ zv_0
    refine j_iload dL_refused_199 rfl ?_
    refine j_icmp_ne (tgt := 441) dL_refused_201 (by decide) (fun h9 => absurd h9 (fun q => q (by decide))) (fun _ => ?_)
    refine j_aload_n dL_refused_204 rfl rfl ?_
    refine j_iconst (v := 0) dL_refused_205 (by decide) ?_
    refine j_iload_n dL_refused_206 rfl rfl ?_
    refine j_iconst (v := 0) dL_refused_207 (by decide) ?_
    refine j_iconst (v := 0) dL_refused_208 (by decide) ?_
    refine j_cVi (f_dye h hx) q_X3_dye tw_338 dL_refused_209 rfl rfl rfl (by omega) (Nat.le_of_ble_eq_true rfl) (by omega) (by omega) ?_ zv_0
    refine j_iconst (v := -1) dL_refused_212 (by decide) ?_
    refine j_icmp_ne (tgt := 441) dL_refused_213 (by decide) (fun h9 => absurd h9 (fun q => q (by decide))) (fun _ => ?_)
    refine j_aload_n dL_refused_216 rfl rfl ?_
    refine j_iload_n dL_refused_217 rfl rfl ?_
    refine j_iconst (v := 0) dL_refused_218 (by decide) ?_
    refine j_cVl (f_colour h hx) q_X3_colour tw_400 dL_refused_219 rfl rfl rfl (by omega) (Nat.le_of_ble_eq_true rfl) (by omega) (by omega) ?_ zv_0
    refine j_ldc2 (v := -1) dL_refused_222 tw_592 ?_
    refine j_lcmp dL_refused_225 ?_
    refine j_if_ne (tgt := 441) dL_refused_226 (by decide) (fun h9 => absurd h9 (fun q => q (by decide))) (fun _ => ?_)
    refine j_aload_n dL_refused_229 rfl rfl ?_
    refine j_iconst (v := 0) dL_refused_230 (by decide) ?_
    refine j_iload_n dL_refused_231 rfl rfl ?_
    refine j_cVl (f_colour2 h hx) q_X3_colour tw_400 dL_refused_232 rfl rfl rfl (by omega) (Nat.le_of_ble_eq_true rfl) (by omega) (by omega) ?_ zv_0
    refine j_ldc2 (v := -2) dL_refused_235 tw_593 ?_
    refine j_lcmp dL_refused_238 ?_
    refine j_if_ne (tgt := 441) dL_refused_239 (by decide) (fun h9 => absurd h9 (fun q => q (by decide))) (fun _ => ?_)
    refine j_aload_n dL_refused_242 rfl rfl ?_
    refine j_iload_n dL_refused_243 rfl rfl ?_
    refine j_cVi (f_state h hx) q_X3_state tw_196 dL_refused_244 rfl rfl rfl (by omega) (Nat.le_of_ble_eq_true rfl) (by omega) (by omega) ?_ zv_0
    refine j_iload dL_refused_247 rfl ?_
    refine j_icmp_ne (tgt := 441) dL_refused_249 (by decide) (fun h9 => absurd h9 (fun q => q (by decide))) (fun _ => ?_)
    refine j_aload_n dL_refused_252 rfl rfl ?_
    refine j_iload_n dL_refused_253 rfl rfl ?_
    refine j_iconst (v := 0) dL_refused_254 (by decide) ?_
    refine j_cVi (f_marker h (fun q => hx.out (by decide) (by have := pl_top (Full_n h.2.1).2; omega) q.1)) q_X3_marker tw_388 dL_refused_255 rfl rfl rfl (by omega) (Nat.le_of_ble_eq_true rfl) (by omega) (by omega) ?_ zv_0
    refine j_bipush (v := -2) dL_refused_258 (by decide) ?_
    refine j_icmp_ne (tgt := 441) dL_refused_260 (by decide) (fun h9 => absurd h9 (fun q => q (by decide))) (fun _ => ?_)
    refine j_aload_n dL_refused_263 rfl rfl ?_
    refine j_iconst (v := 0) dL_refused_264 (by decide) ?_
    refine j_iload_n dL_refused_265 rfl rfl ?_
    refine j_cVi (f_marker h (fun q => hx.out (by decide) (by decide) q.2)) q_X3_marker tw_388 dL_refused_266 rfl rfl rfl (by omega) (Nat.le_of_ble_eq_true rfl) (by omega) (by omega) ?_ zv_0
    refine j_bipush (v := -2) dL_refused_269 (by decide) ?_
    refine j_icmp_ne (tgt := 441) dL_refused_271 (by decide) (fun h9 => absurd h9 (fun q => q (by decide))) (fun _ => ?_)
    refine j_aload_n dL_refused_274 rfl rfl ?_
    refine j_iload_n dL_refused_275 rfl rfl ?_
    refine j_iconst (v := 0) dL_refused_276 (by decide) ?_
    refine j_cVi (f_where h hx) q_X3_where tw_256 dL_refused_277 rfl rfl rfl (by omega) (Nat.le_of_ble_eq_true rfl) (by omega) (by omega) ?_ zv_0
    refine j_iconst (v := -1) dL_refused_280 (by decide) ?_
    refine j_icmp_ne (tgt := 441) dL_refused_281 (by decide) (fun h9 => absurd h9 (fun q => q (by decide))) (fun _ => ?_)
    refine j_aload_n dL_refused_284 rfl rfl ?_
    refine j_iload_n dL_refused_285 rfl rfl ?_
    refine j_iconst (v := 0) dL_refused_286 (by decide) ?_
    refine j_iconst (v := 0) dL_refused_287 (by decide) ?_
    refine j_cVi (f_path h hx) q_X3_path tw_325 dL_refused_288 rfl rfl rfl (by omega) (Nat.le_of_ble_eq_true rfl) (by omega) (by omega) ?_ zv_0
    refine j_iconst (v := -1) dL_refused_291 (by decide) ?_
    refine j_icmp_ne (tgt := 441) dL_refused_292 (by decide) (fun h9 => absurd h9 (fun q => q (by decide))) (fun _ => ?_)
    refine j_aload_n dL_refused_295 rfl rfl ?_
    refine j_iload_n dL_refused_296 rfl rfl ?_
    refine j_iconst (v := 0) dL_refused_297 (by decide) ?_
    refine j_iconst (v := 0) dL_refused_298 (by decide) ?_
    refine j_iconst (v := 1) dL_refused_299 (by decide) ?_
    refine j_cVi (f_meet h (fun q => hx.out (by decide) (by have := rg_k (Full_K h.2.1).2; omega) q.1)) q_X3_meet tw_478 dL_refused_300 rfl rfl rfl (by omega) (Nat.le_of_ble_eq_true rfl) (by omega) (by omega) ?_ zv_0
    refine j_iconst (v := -1) dL_refused_303 (by decide) ?_
    refine j_icmp_ne (tgt := 441) dL_refused_304 (by decide) (fun h9 => absurd h9 (fun q => q (by decide))) (fun _ => ?_)
    refine j_aload_n dL_refused_307 rfl rfl ?_
    refine j_iload_n dL_refused_308 rfl rfl ?_
    refine j_iconst (v := 1) dL_refused_309 (by decide) ?_
    refine j_cVi (f_settles h (fun q => hx.out (by decide) (by decide) q.1)) q_X3_settles tw_457 dL_refused_310 rfl rfl rfl (by omega) (Nat.le_of_ble_eq_true rfl) (by omega) (by omega) ?_ zv_0
    refine j_bipush (v := -2) dL_refused_313 (by decide) ?_
    refine j_icmp_ne (tgt := 441) dL_refused_315 (by decide) (fun h9 => absurd h9 (fun q => q (by decide))) (fun _ => ?_)
    refine j_aload_n dL_refused_318 rfl rfl ?_
    refine j_iconst (v := 0) dL_refused_319 (by decide) ?_
    refine j_iload_n dL_refused_320 rfl rfl ?_
    refine j_cVi (f_settles h (fun q => hx.out (by decide) (by decide) q.2)) q_X3_settles tw_457 dL_refused_321 rfl rfl rfl (by omega) (Nat.le_of_ble_eq_true rfl) (by omega) (by omega) ?_ zv_0
    refine j_bipush (v := -2) dL_refused_324 (by decide) ?_
    refine j_icmp_ne (tgt := 441) dL_refused_326 (by decide) (fun h9 => absurd h9 (fun q => q (by decide))) (fun _ => ?_)
    refine j_aload_n dL_refused_329 rfl rfl ?_
    refine j_iload_n dL_refused_330 rfl rfl ?_
    refine j_iconst (v := 0) dL_refused_331 (by decide) ?_
    refine j_iconst (v := 1) dL_refused_332 (by decide) ?_
    refine j_iconst (v := 1) dL_refused_333 (by decide) ?_
    refine j_cVi (f_arrives h (fun q => hx.out (by decide) (by decide) q.1)) q_X3_arrives tw_469 dL_refused_334 rfl rfl rfl (by omega) (Nat.le_of_ble_eq_true rfl) (by omega) (by omega) ?_ zv_0
    refine j_iconst (v := -1) dL_refused_337 (by decide) ?_
    refine j_icmp_ne (tgt := 441) dL_refused_338 (by decide) (fun h9 => absurd h9 (fun q => q (by decide))) (fun _ => ?_)
    refine j_aload_n dL_refused_341 rfl rfl ?_
    refine j_iconst (v := 0) dL_refused_342 (by decide) ?_
    refine j_iload_n dL_refused_343 rfl rfl ?_
    refine j_iconst (v := 1) dL_refused_344 (by decide) ?_
    refine j_iconst (v := 1) dL_refused_345 (by decide) ?_
    refine j_cVi (f_arrives h (fun q => hx.out (by decide) (by have := rg_n (Full_n h.2.1).2; omega) q.2)) q_X3_arrives tw_469 dL_refused_346 rfl rfl rfl (by omega) (Nat.le_of_ble_eq_true rfl) (by omega) (by omega) ?_ zv_0
    refine j_iconst (v := -1) dL_refused_349 (by decide) ?_
    refine j_icmp_ne (tgt := 441) dL_refused_350 (by decide) (fun h9 => absurd h9 (fun q => q (by decide))) (fun _ => ?_)
    refine j_aload_n dL_refused_353 rfl rfl ?_
    refine j_iconst (v := 0) dL_refused_354 (by decide) ?_
    refine j_iconst (v := 0) dL_refused_355 (by decide) ?_
    refine j_iload_n dL_refused_356 rfl rfl ?_
    refine j_iconst (v := 1) dL_refused_357 (by decide) ?_
    refine j_cVi (f_arrives2 h hx) q_X3_arrives tw_469 dL_refused_358 rfl rfl rfl (by omega) (Nat.le_of_ble_eq_true rfl) (by omega) (by omega) ?_ zv_0
    refine j_bipush (v := -2) dL_refused_361 (by decide) ?_
    refine j_icmp_ne (tgt := 441) dL_refused_363 (by decide) (fun h9 => absurd h9 (fun q => q (by decide))) (fun _ => ?_)
    refine j_aload_n dL_refused_366 rfl rfl ?_
    refine j_iconst (v := 0) dL_refused_367 (by decide) ?_
    refine j_iload_n dL_refused_368 rfl rfl ?_
    refine j_iconst (v := 1) dL_refused_369 (by decide) ?_
    refine j_cVi (f_leastEkman h (fun q => hx.out (by decide) (by decide) q.1)) q_X3_leastEkman tw_491 dL_refused_370 rfl rfl rfl (by omega) (Nat.le_of_ble_eq_true rfl) (by omega) (by omega) ?_ zv_0
    refine j_bipush (v := -2) dL_refused_373 (by decide) ?_
    refine j_icmp_ne (tgt := 441) dL_refused_375 (by decide) (fun h9 => absurd h9 (fun q => q (by decide))) (fun _ => ?_)
    refine j_aload_n dL_refused_378 rfl rfl ?_
    refine j_iconst (v := 0) dL_refused_379 (by decide) ?_
    refine j_iconst (v := 0) dL_refused_380 (by decide) ?_
    refine j_iload_n dL_refused_381 rfl rfl ?_
    refine j_cVi (f_leastEkman h (fun q => hx.out (by decide) (by decide) q.2)) q_X3_leastEkman tw_491 dL_refused_382 rfl rfl rfl (by omega) (Nat.le_of_ble_eq_true rfl) (by omega) (by omega) ?_ zv_0
    refine j_bipush (v := -2) dL_refused_385 (by decide) ?_
    refine j_icmp_ne (tgt := 441) dL_refused_387 (by decide) (fun h9 => absurd h9 (fun q => q (by decide))) (fun _ => ?_)
    refine j_aload_n dL_refused_390 rfl rfl ?_
    refine j_iload_n dL_refused_391 rfl rfl ?_
    refine j_cVi (f_say h hx) q_X3_say tw_507 dL_refused_392 rfl rfl rfl (by omega) (Nat.le_of_ble_eq_true rfl) (by omega) (by omega) ?_ zv_0
    refine j_bipush (v := -2) dL_refused_395 (by decide) ?_
    refine j_icmp_ne (tgt := 441) dL_refused_397 (by decide) (fun h9 => absurd h9 (fun q => q (by decide))) (fun _ => ?_)
    refine j_aload_n dL_refused_400 rfl rfl ?_
    refine j_cVs (f_carryOut h) q_X3_carryOut tw_568 dL_refused_401 rfl rfl rfl (by omega) (Nat.le_of_ble_eq_true rfl) (by omega) (by omega) (fun μ' y ⟨hy, h⟩ => ?_) zv_0
    subst hy
    refine j_bipush (v := -3) dL_refused_404 (by decide) ?_
    refine j_icmp_ne (tgt := 441) dL_refused_406 (by decide) (fun h9 => absurd h9 (fun q => q (by decide))) (fun _ => ?_)
    refine j_aload_n dL_refused_409 rfl rfl ?_
    refine j_iload_n dL_refused_410 rfl rfl ?_
    refine j_cVi (f_save h hx) q_X3_save tw_437 dL_refused_411 rfl rfl rfl (by omega) (Nat.le_of_ble_eq_true rfl) (by omega) (by omega) ?_ zv_0
    refine j_bipush (v := -2) dL_refused_414 (by decide) ?_
    refine j_icmp_ne (tgt := 441) dL_refused_416 (by decide) (fun h9 => absurd h9 (fun q => q (by decide))) (fun _ => ?_)
    refine j_aload_n dL_refused_419 rfl rfl ?_
    refine j_iload_n dL_refused_420 rfl rfl ?_
    refine j_cVi (f_restore h hx) q_X3_restore tw_450 dL_refused_421 rfl rfl rfl (by omega) (Nat.le_of_ble_eq_true rfl) (by omega) (by omega) ?_ zv_0
    refine j_bipush (v := -2) dL_refused_424 (by decide) ?_
    refine j_icmp_ne (tgt := 441) dL_refused_426 (by decide) (fun h9 => absurd h9 (fun q => q (by decide))) (fun _ => ?_)
    refine j_aload_n dL_refused_429 rfl rfl ?_
    refine j_iconst (v := 0) dL_refused_430 (by decide) ?_
    refine j_cVi (o_state h 0) q_X3_state tw_196 dL_refused_431 rfl rfl rfl (by omega) (Nat.le_of_ble_eq_true rfl) (by omega) (by omega) ?_ zv_0
    refine j_top ((state0.trans h1)) ?_
    refine j_if_ne (tgt := 441) dL_refused_434 (by decide) (fun h9 => absurd h9 (fun q => q rfl)) (fun _ => ?_)
    refine j_iconst (v := 1) dL_refused_437 (by decide) ?_
    refine j_goto (tgt := 442) dL_refused_438 (by decide) ?_
    refine j_bret hR dL_refused_442 (Or.inr rfl) (⟨rfl, rfl, h⟩) (by omega) (by omega)
  refine j_ls (ls' := [zR (0, 0, 0), zI v, zN, zN, zN]) rfl ?_
  refine j_iload_n dL_refused_0 rfl rfl ?_
  refine j_if_ge (tgt := 17) dL_refused_1 (by decide) (fun hv => ?_) (fun hv => ?_)
  · refine j_iload_n dL_refused_17 rfl rfl ?_
    refine j_ldc (v := 1000000) dL_refused_18 tw_588 ?_
    refine j_irem dL_refused_20 (by decide) ?_
    refine j_ldc (v := 1000001) dL_refused_21 tw_589 ?_
    refine j_iadd dL_refused_23 ?_
    refine tail _ ?_
    obtain ⟨r1, r2⟩ := rem_rng v (m := 1000000) (by omega) (by omega)
    have r3 : 0 ≤ (v - v / nI 1000000 * nI 1000000).toInt := by
      rw [rem_int (by decide)]
      exact Int.tmod_nonneg _ (by rw [Int32.le_iff_toInt_le, Int32.toInt_zero] at hv; exact hv)
    refine Or.inr ?_
    show 1000001 ≤ (v - v / nI 1000000 * nI 1000000 + 1000001).toInt
    rw [Int32.toInt_add, show (1000001 : Int32).toInt = 1000001 by decide, Int.bmod_eq_of_le (by omega) (by omega)]
    omega
  · refine j_sipush (v := -1501) dL_refused_4 (by decide) ?_
    refine j_iload_n dL_refused_7 rfl rfl ?_
    refine j_ldc (v := 1000000) dL_refused_8 tw_588 ?_
    refine j_cSi (c_up v 1000000 (by decide)) q_L_up tw_189 dL_refused_10 rfl rfl (by omega) (Nat.le_of_ble_eq_true rfl) (by omega) (by omega) ?_
    refine j_isub dL_refused_13 ?_
    refine j_goto (tgt := 24) dL_refused_14 (by decide) ?_
    refine tail _ ?_
    obtain ⟨u, hu, e⟩ := up_ex v (m := 1000000) (by omega) (by omega)
    refine Or.inl ?_
    show ((-1501 : Int32) - upI v (nI 1000000)).toInt ≤ -1501
    rw [e, Int32.toInt_sub, nI_toInt (by omega), show (-1501 : Int32).toInt = -1501 by decide, Int.bmod_eq_of_le (by omega) (by omega)]
    omega
