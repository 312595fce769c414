/-! the same by a text and by calls: told() of the law -/
theorem TX_chr {μ : zM} {f : Nat → Int32} {l : Nat} (h : TX μ f l) : chr (μ (4, 0, 0)) l = chr f l := by
  funext i
  unfold chr
  split
  · next hi => exact h i hi
  · rfl
theorem TX_0 (μ : zM) (f : Nat → Int32) : TX μ f 0 := fun i hi => by omega
theorem ch_in {k : Nat} (h : 33 ≤ k ∧ k ≤ 126) : (33 : Int32) ≤ nI k ∧ nI k ≤ 126 := n_in 33 126 h
theorem g_carryOut {μ : zM} {a c : rw} {S : Nat → Option rw} {l D : Nat} {f : Nat → Int32} {Ls : List (List Int32)} (h : OK μ a S l) (hch : chr (μ (4, 0, 0)) l = chr f l) (h1 : fauP (chr f l) l = -6) (h2 : (txtP (chr f l) 21 0).2.2 = Ls) (hrun : runA Ls a = (D, c)) (hc : Full c) : zCs yX3_carryOut prog_1_method_23_code 3 (some .int) 8 [zR (0, 0, 0)] μ (fun μ' r => r = nI D ∧ OK μ' c S 0) := by
  have h3 := o_carryOut h (fun _ => by rw [hch, h2, hrun]; exact hc)
  rw [hch, h2, hrun] at h3
  refine zCt.imp h3 (fun μ' r ⟨w, e, e2, h4⟩ => ⟨w, e, ?_, ?_⟩)
  · rw [e2, if_pos h1]
  · rw [if_pos h1, if_pos h1] at h4
    exact h4
set_option maxRecDepth 100000 in
theorem k_told {μ : zM} {a : rw} {S : Nat → Option rw} {t : Nat} {fp : Nat → Int32} (h : OK μ a S 0) (hw : Lw a t) (ht : t ≤ 80000) (hf : PI fp a) (hfB : (fp 2).toInt ≤ 8000000) (v : Int32) (E : xE) : xCs yL_told method_13_code 13 (some .boolean) 9 0 0 [zR (0, 0, 0), zI v] μ E (fun μ' E' => E' = E ∧ ∃ S', OK μ' a S' 0) := by
  refine xCt.of "DyeTankLaw" rfl (by decide +kernel) rfl (Nat.le_of_ble_eq_true rfl) (fun K hR => ?_)
  have hF := h.2.1
  obtain ⟨hn2, hn12⟩ := Full_n hF
  have hIB := Full_IB hF
  refine j_ls (ls' := [zR (0, 0, 0), zI v, zN, zN, zN, zN, zN, zN, zN, zN, zN, zN, zN]) rfl ?_
  refine j_iconst (v := 1) dL_told_0 (by decide) ?_
  refine j_iload_n dL_told_1 rfl rfl ?_
  refine j_bipush (v := 9) dL_told_2 (by decide) ?_
  refine j_cSi (c_up _ 9 (by decide)) q_L_up tw_189 dL_told_4 rfl rfl (by omega) (Nat.le_of_ble_eq_true rfl) (by omega) (by omega) ?_
  obtain ⟨T0, hT0, eT0⟩ := up_ex v (m := 9) (by omega) (by omega)
  refine j_top (eT0) ?_
  refine j_iadd dL_told_7 ?_
  refine j_top ((nI_add 1 T0)) ?_
  refine j_istore_n dL_told_8 rfl (by decide) rfl ?_
  refine j_iload_n dL_told_9 rfl rfl ?_
  refine j_iconst (v := 4) dL_told_10 (by decide) ?_
  refine j_ishr dL_told_11 ?_
  refine j_bipush (v := 10) dL_told_12 (by decide) ?_
  refine j_cSi (c_up _ 10 (by decide)) q_L_up tw_189 dL_told_14 rfl rfl (by omega) (Nat.le_of_ble_eq_true rfl) (by omega) (by omega) ?_
  obtain ⟨R, hRt, eR⟩ := up_ex (v >>> (4 &&& 31)) (m := 10) (by omega) (by omega)
  refine j_top (eR) ?_
  refine j_istore_n dL_told_17 rfl (by decide) rfl ?_
  refine j_iload_n dL_told_18 rfl rfl ?_
  refine j_bipush (v := 8) dL_told_19 (by decide) ?_
  refine j_ishr dL_told_21 ?_
  refine j_bipush (v := 10) dL_told_22 (by decide) ?_
  refine j_cSi (c_up _ 10 (by decide)) q_L_up tw_189 dL_told_24 rfl rfl (by omega) (Nat.le_of_ble_eq_true rfl) (by omega) (by omega) ?_
  obtain ⟨V, hV, eV⟩ := up_ex (v >>> (8 &&& 31)) (m := 10) (by omega) (by omega)
  refine j_top (eV) ?_
  have htx := tdB_all T0 hT0 R hRt V hV
  obtain ⟨T, hT⟩ : ∃ T, T = 1 + T0 := ⟨_, rfl⟩
  rw [← hT] at htx ⊢
  have hT9 : 1 ≤ T ∧ T ≤ 9 := by omega
  refine j_istore dL_told_27 (by decide) rfl ?_
  refine j_aload_n dL_told_29 rfl rfl ?_
  refine j_iconst (v := 1) dL_told_30 (by decide) ?_
  refine j_cVs (g_save h (i := 1) (by omega)) q_X3_save tw_437 dL_told_31 rfl rfl rfl (by omega) (Nat.le_of_ble_eq_true rfl) (by omega) (by omega) (fun μ1 w1 ⟨_, h1⟩ => ?_) zv_0
  refine j_pop dL_told_34 rfl ?_
  refine j_iconst (v := 1) dL_told_35 (by decide) ?_
  refine j_istore dL_told_36 (by decide) rfl ?_
  refine j_aload_n dL_told_38 rfl rfl ?_
  refine j_iload_n dL_told_39 rfl rfl ?_
  refine j_cVs (g_tick h1 (M := T) hw.1 (by omega) (by omega)) q_X3_tick tw_268 dL_told_40 rfl rfl rfl (by omega) (Nat.le_of_ble_eq_true rfl) (by omega) (by omega) (fun μ2 w2 ⟨_, h2⟩ => ?_) zv_0
  refine j_pop dL_told_43 rfl ?_
  refine j_aload_n dL_told_44 rfl rfl ?_
  refine j_iload_n dL_told_45 rfl rfl ?_
  refine j_iload dL_told_46 rfl ?_
  refine j_ineg dL_told_48 ?_
  -- the text behind the calls: any row that the calls led to
  have text : ∀ (μ3 : zM) (c : rw) (D : Nat) (x6 : Int32), OK μ3 c (putS S 1 a) 0 → runA [[116, nI T], [118, nI R, -nI V], [100, 2, 1, nI R, 7, 5]] a = (D, c) → Xj K 9 0 0 "DyeTankLaw" method_13_code 13 107 [zR (0, 0, 0), zI v, zI (nI T), zI (nI R), zI (nI V), zI (nI D), zI x6, zN, zN, zN, zN, zN, zN] [] μ3 E 0 0 := by
    intro μ3 c D x6 h3 hrun
    have htd : fauP (chr (tdF T R V) 17) 17 = -6 ∧ (txtP (chr (tdF T R V) 17) 21 0).2.2 = [[116, nI T], [118, nI R, -nI V], [100, 2, 1, nI R, 7, 5]] := by
      unfold tdB at htx
      rw [Bool.and_eq_true, decide_eq_true_iff, decide_eq_true_iff] at htx
      exact htx
    refine j_aload_n dL_told_107 rfl rfl ?_
    refine j_iconst (v := 3) dL_told_108 (by decide) ?_
    refine j_cVi (o_state h3 3) q_X3_state tw_196 dL_told_109 rfl rfl rfl (by omega) (Nat.le_of_ble_eq_true rfl) (by omega) (by omega) ?_ zv_0
    refine j_istore dL_told_112 (by decide) rfl ?_
    refine j_aload_n dL_told_114 rfl rfl ?_
    refine j_iconst (v := 2) dL_told_115 (by decide) ?_
    refine j_iconst (v := 0) dL_told_116 (by decide) ?_
    refine j_cVl (o_colour h3 2 0) q_X3_colour tw_400 dL_told_117 rfl rfl rfl (by omega) (Nat.le_of_ble_eq_true rfl) (by omega) (by omega) ?_ zv_0
    refine j_lstore dL_told_120 (by decide) rfl ?_
    refine j_aload_n dL_told_122 rfl rfl ?_
    refine j_iconst (v := 2) dL_told_123 (by decide) ?_
    refine j_iconst (v := 4) dL_told_124 (by decide) ?_
    refine j_cVl (o_colour h3 2 4) q_X3_colour tw_400 dL_told_125 rfl rfl rfl (by omega) (Nat.le_of_ble_eq_true rfl) (by omega) (by omega) ?_ zv_0
    refine j_lstore dL_told_128 (by decide) rfl ?_
    refine j_aload_n dL_told_130 rfl rfl ?_
    refine j_iconst (v := 1) dL_told_131 (by decide) ?_
    refine j_cVs (g_restore h3 (i := 1) (by omega) (putS_eq S 1 a)) q_X3_restore tw_450 dL_told_132 rfl rfl rfl (by omega) (Nat.le_of_ble_eq_true rfl) (by omega) (by omega) (fun μ4 w4 ⟨_, h4⟩ => ?_) zv_0
    refine j_pop dL_told_135 rfl ?_
    refine j_aload_n dL_told_136 rfl rfl ?_
    refine j_cVs (o_wipe h4) q_X3_wipe tw_503 dL_told_137 rfl rfl rfl (by omega) (Nat.le_of_ble_eq_true rfl) (by omega) (by omega) (fun μ5 w5 ⟨_, h5⟩ => ?_) zv_0
    refine j_pop dL_told_140 rfl ?_
    have g0 := TX_0 μ5 (tdF T R V)
    refine j_aload_n dL_told_141 rfl rfl ?_
    refine j_bipush (v := 116) dL_told_142 (by decide) ?_
    refine j_cVs (o_say h5 (by omega) g0 (x := 116) (by decide) rfl) q_X3_say tw_507 dL_told_144 rfl rfl rfl (by omega) (Nat.le_of_ble_eq_true rfl) (by omega) (by omega) (fun μ6 w6 ⟨_, h6, g1⟩ => ?_) zv_0
    refine j_pop dL_told_147 rfl ?_
    refine j_aload_n dL_told_148 rfl rfl ?_
    refine j_bipush (v := 48) dL_told_149 (by decide) ?_
    refine j_iload_n dL_told_151 rfl rfl ?_
    refine j_iadd dL_told_152 ?_
    refine j_top ((nI_add 48 T)) ?_
    refine j_cVs (o_say h6 (by omega) g1 (x := nI (48 + T)) (ch_in (by omega)) rfl) q_X3_say tw_507 dL_told_153 rfl rfl rfl (by omega) (Nat.le_of_ble_eq_true rfl) (by omega) (by omega) (fun μ7 w7 ⟨_, h7, g2⟩ => ?_) zv_0
    refine j_pop dL_told_156 rfl ?_
    refine j_aload_n dL_told_157 rfl rfl ?_
    refine j_bipush (v := 44) dL_told_158 (by decide) ?_
    refine j_cVs (o_say h7 (by omega) g2 (x := 44) (by decide) rfl) q_X3_say tw_507 dL_told_160 rfl rfl rfl (by omega) (Nat.le_of_ble_eq_true rfl) (by omega) (by omega) (fun μ8 w8 ⟨_, h8, g3⟩ => ?_) zv_0
    refine j_pop dL_told_163 rfl ?_
    refine j_aload_n dL_told_164 rfl rfl ?_
    refine j_bipush (v := 118) dL_told_165 (by decide) ?_
    refine j_cVs (o_say h8 (by omega) g3 (x := 118) (by decide) rfl) q_X3_say tw_507 dL_told_167 rfl rfl rfl (by omega) (Nat.le_of_ble_eq_true rfl) (by omega) (by omega) (fun μ9 w9 ⟨_, h9, g4⟩ => ?_) zv_0
    refine j_pop dL_told_170 rfl ?_
    refine j_aload_n dL_told_171 rfl rfl ?_
    refine j_bipush (v := 48) dL_told_172 (by decide) ?_
    refine j_iload_n dL_told_174 rfl rfl ?_
    refine j_iadd dL_told_175 ?_
    refine j_top ((nI_add 48 R)) ?_
    refine j_cVs (o_say h9 (by omega) g4 (x := nI (48 + R)) (ch_in (by omega)) rfl) q_X3_say tw_507 dL_told_176 rfl rfl rfl (by omega) (Nat.le_of_ble_eq_true rfl) (by omega) (by omega) (fun μ10 w10 ⟨_, h10, g5⟩ => ?_) zv_0
    refine j_pop dL_told_179 rfl ?_
    refine j_aload_n dL_told_180 rfl rfl ?_
    refine j_bipush (v := 58) dL_told_181 (by decide) ?_
    refine j_cVs (o_say h10 (by omega) g5 (x := 58) (by decide) rfl) q_X3_say tw_507 dL_told_183 rfl rfl rfl (by omega) (Nat.le_of_ble_eq_true rfl) (by omega) (by omega) (fun μ11 w11 ⟨_, h11, g6⟩ => ?_) zv_0
    refine j_pop dL_told_186 rfl ?_
    refine j_aload_n dL_told_187 rfl rfl ?_
    refine j_bipush (v := 45) dL_told_188 (by decide) ?_
    refine j_cVs (o_say h11 (by omega) g6 (x := 45) (by decide) rfl) q_X3_say tw_507 dL_told_190 rfl rfl rfl (by omega) (Nat.le_of_ble_eq_true rfl) (by omega) (by omega) (fun μ12 w12 ⟨_, h12, g7⟩ => ?_) zv_0
    refine j_pop dL_told_193 rfl ?_
    refine j_aload_n dL_told_194 rfl rfl ?_
    refine j_bipush (v := 48) dL_told_195 (by decide) ?_
    refine j_iload dL_told_197 rfl ?_
    refine j_iadd dL_told_199 ?_
    refine j_top ((nI_add 48 V)) ?_
    refine j_cVs (o_say h12 (by omega) g7 (x := nI (48 + V)) (ch_in (by omega)) rfl) q_X3_say tw_507 dL_told_200 rfl rfl rfl (by omega) (Nat.le_of_ble_eq_true rfl) (by omega) (by omega) (fun μ13 w13 ⟨_, h13, g8⟩ => ?_) zv_0
    refine j_pop dL_told_203 rfl ?_
    refine j_aload_n dL_told_204 rfl rfl ?_
    refine j_bipush (v := 44) dL_told_205 (by decide) ?_
    refine j_cVs (o_say h13 (by omega) g8 (x := 44) (by decide) rfl) q_X3_say tw_507 dL_told_207 rfl rfl rfl (by omega) (Nat.le_of_ble_eq_true rfl) (by omega) (by omega) (fun μ14 w14 ⟨_, h14, g9⟩ => ?_) zv_0
    refine j_pop dL_told_210 rfl ?_
    refine j_aload_n dL_told_211 rfl rfl ?_
    refine j_bipush (v := 100) dL_told_212 (by decide) ?_
    refine j_cVs (o_say h14 (by omega) g9 (x := 100) (by decide) rfl) q_X3_say tw_507 dL_told_214 rfl rfl rfl (by omega) (Nat.le_of_ble_eq_true rfl) (by omega) (by omega) (fun μ15 w15 ⟨_, h15, g10⟩ => ?_) zv_0
    refine j_pop dL_told_217 rfl ?_
    refine j_aload_n dL_told_218 rfl rfl ?_
    refine j_bipush (v := 99) dL_told_219 (by decide) ?_
    refine j_cVs (o_say h15 (by omega) g10 (x := 99) (by decide) rfl) q_X3_say tw_507 dL_told_221 rfl rfl rfl (by omega) (Nat.le_of_ble_eq_true rfl) (by omega) (by omega) (fun μ16 w16 ⟨_, h16, g11⟩ => ?_) zv_0
    refine j_pop dL_told_224 rfl ?_
    refine j_aload_n dL_told_225 rfl rfl ?_
    refine j_bipush (v := 95) dL_told_226 (by decide) ?_
    refine j_cVs (o_say h16 (by omega) g11 (x := 95) (by decide) rfl) q_X3_say tw_507 dL_told_228 rfl rfl rfl (by omega) (Nat.le_of_ble_eq_true rfl) (by omega) (by omega) (fun μ17 w17 ⟨_, h17, g12⟩ => ?_) zv_0
    refine j_pop dL_told_231 rfl ?_
    refine j_aload_n dL_told_232 rfl rfl ?_
    refine j_bipush (v := 48) dL_told_233 (by decide) ?_
    refine j_iload_n dL_told_235 rfl rfl ?_
    refine j_iadd dL_told_236 ?_
    refine j_top ((nI_add 48 R)) ?_
    refine j_cVs (o_say h17 (by omega) g12 (x := nI (48 + R)) (ch_in (by omega)) rfl) q_X3_say tw_507 dL_told_237 rfl rfl rfl (by omega) (Nat.le_of_ble_eq_true rfl) (by omega) (by omega) (fun μ18 w18 ⟨_, h18, g13⟩ => ?_) zv_0
    refine j_pop dL_told_240 rfl ?_
    refine j_aload_n dL_told_241 rfl rfl ?_
    refine j_bipush (v := 58) dL_told_242 (by decide) ?_
    refine j_cVs (o_say h18 (by omega) g13 (x := 58) (by decide) rfl) q_X3_say tw_507 dL_told_244 rfl rfl rfl (by omega) (Nat.le_of_ble_eq_true rfl) (by omega) (by omega) (fun μ19 w19 ⟨_, h19, g14⟩ => ?_) zv_0
    refine j_pop dL_told_247 rfl ?_
    refine j_aload_n dL_told_248 rfl rfl ?_
    refine j_bipush (v := 55) dL_told_249 (by decide) ?_
    refine j_cVs (o_say h19 (by omega) g14 (x := 55) (by decide) rfl) q_X3_say tw_507 dL_told_251 rfl rfl rfl (by omega) (Nat.le_of_ble_eq_true rfl) (by omega) (by omega) (fun μ20 w20 ⟨_, h20, g15⟩ => ?_) zv_0
    refine j_pop dL_told_254 rfl ?_
    refine j_aload_n dL_told_255 rfl rfl ?_
    refine j_bipush (v := 61) dL_told_256 (by decide) ?_
    refine j_cVs (o_say h20 (by omega) g15 (x := 61) (by decide) rfl) q_X3_say tw_507 dL_told_258 rfl rfl rfl (by omega) (Nat.le_of_ble_eq_true rfl) (by omega) (by omega) (fun μ21 w21 ⟨_, h21, g16⟩ => ?_) zv_0
    refine j_pop dL_told_261 rfl ?_
    refine j_aload_n dL_told_262 rfl rfl ?_
    refine j_bipush (v := 53) dL_told_263 (by decide) ?_
    refine j_cVs (o_say h21 (by omega) g16 (x := 53) (by decide) rfl) q_X3_say tw_507 dL_told_265 rfl rfl rfl (by omega) (Nat.le_of_ble_eq_true rfl) (by omega) (by omega) (fun μ22 w22 ⟨_, h22, g17⟩ => ?_) zv_0
    refine j_pop dL_told_268 rfl ?_
    have hch := TX_chr g17
    have h22 : OK μ22 a (putS S 1 a) 17 := h22
    refine j_aload_n dL_told_269 rfl rfl ?_
    refine j_cVs (o_fault h22) q_X3_fault tw_515 dL_told_270 rfl rfl rfl (by omega) (Nat.le_of_ble_eq_true rfl) (by omega) (by omega) (fun μ23 w23 ⟨ef, h23, m4⟩ => ?_) zv_0
    have hch : chr (μ22 (4, 0, 0)) 17 = chr (tdF T R V) 17 := hch
    rw [hch, htd.1] at ef
    subst ef
    rw [← m4] at hch
    refine j_bipush (v := -6) dL_told_273 (by decide) ?_
    refine j_icmp_ne (tgt := 333) dL_told_275 (by decide) (fun h9 => absurd h9 (fun q => q rfl)) (fun _ => ?_)
    refine j_aload_n dL_told_278 rfl rfl ?_
    refine j_cVs (g_carryOut h23 hch htd.1 htd.2 hrun h3.2.1) q_X3_carryOut tw_568 dL_told_279 rfl rfl rfl (by omega) (Nat.le_of_ble_eq_true rfl) (by omega) (by omega) (fun μ24 w24 ⟨ew, h24⟩ => ?_) zv_0
    subst ew
    refine j_iload dL_told_282 rfl ?_
    refine j_icmp_ne (tgt := 333) dL_told_284 (by decide) (fun h9 => absurd h9 (fun q => q rfl)) (fun _ => ?_)
    refine j_aload_n dL_told_287 rfl rfl ?_
    refine j_iconst (v := 5) dL_told_288 (by decide) ?_
    refine j_cVi (o_state h24 5) q_X3_state tw_196 dL_told_289 rfl rfl rfl (by omega) (Nat.le_of_ble_eq_true rfl) (by omega) (by omega) ?_ zv_0
    refine j_top (st_5) ?_
    refine j_if_ne (tgt := 333) dL_told_292 (by decide) (fun h9 => absurd h9 (fun q => q rfl)) (fun _ => ?_)
    refine j_aload_n dL_told_295 rfl rfl ?_
    refine j_iconst (v := 3) dL_told_296 (by decide) ?_
    refine j_cVi (o_state h24 3) q_X3_state tw_196 dL_told_297 rfl rfl rfl (by omega) (Nat.le_of_ble_eq_true rfl) (by omega) (by omega) ?_ zv_0
    refine j_iload dL_told_300 rfl ?_
    refine j_icmp_ne (tgt := 333) dL_told_302 (by decide) (fun h9 => absurd h9 (fun q => q rfl)) (fun _ => ?_)
    refine j_aload_n dL_told_305 rfl rfl ?_
    refine j_iconst (v := 2) dL_told_306 (by decide) ?_
    refine j_iconst (v := 0) dL_told_307 (by decide) ?_
    refine j_cVl (o_colour h24 2 0) q_X3_colour tw_400 dL_told_308 rfl rfl rfl (by omega) (Nat.le_of_ble_eq_true rfl) (by omega) (by omega) ?_ zv_0
    refine j_lload dL_told_311 rfl ?_
    refine j_lcmp dL_told_313 ?_
    refine j_if_ne (tgt := 333) dL_told_314 (by decide) (fun h9 => absurd h9 (fun q => q ((lg_cmp_eq _ _).mpr rfl))) (fun _ => ?_)
    refine j_aload_n dL_told_317 rfl rfl ?_
    refine j_iconst (v := 2) dL_told_318 (by decide) ?_
    refine j_iconst (v := 4) dL_told_319 (by decide) ?_
    refine j_cVl (o_colour h24 2 4) q_X3_colour tw_400 dL_told_320 rfl rfl rfl (by omega) (Nat.le_of_ble_eq_true rfl) (by omega) (by omega) ?_ zv_0
    refine j_lload dL_told_323 rfl ?_
    refine j_lcmp dL_told_325 ?_
    refine j_if_ne (tgt := 333) dL_told_326 (by decide) (fun h9 => absurd h9 (fun q => q ((lg_cmp_eq _ _).mpr rfl))) (fun _ => ?_)
    refine j_iconst (v := 1) dL_told_329 (by decide) ?_
    refine j_goto (tgt := 334) dL_told_330 (by decide) ?_
    refine j_istore dL_told_334 (by decide) rfl ?_
    refine j_iload dL_told_336 rfl ?_
    refine j_if_eq (tgt := 353) dL_told_338 (by decide) (fun h9 => absurd h9 ((show ¬ (1 : Int32) = 0 by decide))) (fun _ => ?_)
    refine j_aload_n dL_told_341 rfl rfl ?_
    refine j_iconst (v := 1) dL_told_342 (by decide) ?_
    refine j_cVs (g_restore h24 (i := 1) (by omega) (putS_eq S 1 a)) q_X3_restore tw_450 dL_told_343 rfl rfl rfl (by omega) (Nat.le_of_ble_eq_true rfl) (by omega) (by omega) (fun μ25 w25 ⟨ew, h25⟩ => ?_) zv_0
    subst ew
    refine j_if_lt (tgt := 353) dL_told_346 (by decide) (fun h9 => absurd h9 (fun q => absurd (nI_pos' (show t < 2 ^ 31 by omega)) (by rw [← hw.1]; exact Int32.not_le.mpr q))) (fun _ => ?_)
    refine j_iconst (v := 1) dL_told_349 (by decide) ?_
    refine j_goto (tgt := 354) dL_told_350 (by decide) ?_
    refine j_bret hR dL_told_354 (Or.inr rfl) (⟨rfl, rfl, _, h25⟩) (by omega) (by omega)
  have hFT := h2.2.1
  have enT : rN (itF T a) = rN a := it_N a T
  by_cases hRn : R < rN a
  · refine j_cVs (g_spin h2 (r := R) (by rw [enT]; exact hRn) (neg_in hV)) q_X3_spin tw_359 dL_told_49 rfl rfl rfl (by omega) (Nat.le_of_ble_eq_true rfl) (by omega) (by omega) (fun μ3 w3 ⟨ew, h3⟩ => ?_) zv_0
    have hv := Full_vel hFT (r := R) (by omega)
    rw [← ew] at hv
    have en3 : rN (upd (itF T a) (9 + R) (-nI V * nI (2 * R + 1))) = rN a := (rN_up (if_neg (by omega))).trans enT
    have hP3 : PI fp (upd (itF T a) (9 + R) (-nI V * nI (2 * R + 1))) := (hf.it hF (k := T) (by omega)).up (if_neg (by omega)) (by omega) (fun k hk => if_neg (by omega))
    have hA3 := hP3 2 (by omega)
    have hall : (allA (aD (upd (itF T a) (9 + R) (-nI V * nI (2 * R + 1))) 2) (rN (upd (itF T a) (9 + R) (-nI V * nI (2 * R + 1))))).toInt ≤ 9000000 := by rw [← hA3]; omega
    have hnn := (Full_Gd h3.2.1).1.2.2 2 (by omega)
    refine j_ldc (v := -1000000000) dL_told_52 tw_502 ?_
    refine j_icmp_lt (tgt := 61) dL_told_54 (by decide) (fun h9 => absurd h9 (fun q => by rw [Int32.lt_iff_toInt_lt, show (-1000000000 : Int32).toInt = -1000000000 by decide] at q; omega)) (fun _ => ?_)
    refine j_iconst (v := 1) dL_told_57 (by decide) ?_
    refine j_goto (tgt := 62) dL_told_58 (by decide) ?_
    refine j_istore dL_told_62 (by decide) rfl ?_
    refine j_iload dL_told_64 rfl ?_
    refine j_iload dL_told_66 rfl ?_
    refine j_if_eq (tgt := 75) dL_told_68 (by decide) (fun h9 => absurd h9 ((show ¬ (1 : Int32) = 0 by decide))) (fun _ => ?_)
    refine j_iconst (v := 1) dL_told_71 (by decide) ?_
    refine j_goto (tgt := 76) dL_told_72 (by decide) ?_
    refine j_iadd dL_told_76 ?_
    refine j_istore dL_told_77 (by decide) rfl ?_
    refine j_iload dL_told_79 rfl ?_
    refine j_iload dL_told_81 rfl ?_
    refine j_if_eq (tgt := 103) dL_told_83 (by decide) (fun h9 => absurd h9 ((show ¬ (1 : Int32) = 0 by decide))) (fun _ => ?_)
    refine j_aload_n dL_told_86 rfl rfl ?_
    refine j_iconst (v := 2) dL_told_87 (by decide) ?_
    refine j_iconst (v := 1) dL_told_88 (by decide) ?_
    refine j_iload_n dL_told_89 rfl rfl ?_
    refine j_bipush (v := 7) dL_told_90 (by decide) ?_
    refine j_iconst (v := 5) dL_told_92 (by decide) ?_
    refine j_cVs (g_pour h3 (c := 2) (L := 1) (r := R) (s := 7) (M := 5) (by omega) (by omega) (by rw [en3]; exact hRn) (by omega) (by omega) (by omega)) q_X3_pour tw_353 dL_told_93 rfl rfl rfl (by omega) (Nat.le_of_ble_eq_true rfl) (by omega) (by omega) (fun μ4 w4 ⟨ew4, h4⟩ => ?_) zv_0
    have h4 : OK μ4 (poA (upd (itF T a) (9 + R) (-nI V * nI (2 * R + 1))) 2 1 R 7 5) (putS S 1 a) 0 := h4
    refine j_if_le (tgt := 103) dL_told_96 (by decide) (fun h9 => absurd h9 (fun q => by rw [ew4, Int32.le_iff_toInt_le, Int32.toInt_add, nI_toInt (by omega), Int32.toInt_zero, Int.bmod_eq_of_le (by omega) (by omega)] at q; omega)) (fun _ => ?_)
    refine j_iconst (v := 1) dL_told_99 (by decide) ?_
    refine j_goto (tgt := 104) dL_told_100 (by decide) ?_
    refine j_iadd dL_told_104 ?_
    refine j_top ((show (1 : Int32) + 1 + 1 = nI 3 by decide)) ?_
    refine j_istore dL_told_105 (by decide) rfl ?_
    exact text μ4 _ 3 1 h4 (run_on hF hw.1 hT9 (by omega) hRt hV hRn hall h3.2.1)
  · refine j_cVs (o_spin h2 (nI R) (-nI V)) q_X3_spin tw_359 dL_told_49 rfl rfl rfl (by omega) (Nat.le_of_ble_eq_true rfl) (by omega) (by omega) (fun μ3 w3 hs => ?_) zv_0
    have hs2 : w3 = -1000000001 ∧ μ3 = μ2 := by
      have hno : ¬ ∃ r, r < rN (itF T a) ∧ nI R = nI r := fun ⟨r, hr, e⟩ => by
        have := nI_inj (by omega) (by omega) e
        omega
      rcases hs with ⟨r, hr, e, _⟩ | ⟨q | q, e⟩
      · exact absurd ⟨r, hr, e⟩ hno
      · exact ⟨q.2, e⟩
      · exact absurd q.1 hno
    obtain ⟨rfl, rfl⟩ := hs2
    refine j_ldc (v := -1000000000) dL_told_52 tw_502 ?_
    refine j_icmp_lt (tgt := 61) dL_told_54 (by decide) (fun _ => ?_) (fun h9 => absurd ((show (-1000000001 : Int32) < -1000000000 by decide)) h9)
    refine j_iconst (v := 0) dL_told_61 (by decide) ?_
    refine j_istore dL_told_62 (by decide) rfl ?_
    refine j_iload dL_told_64 rfl ?_
    refine j_iload dL_told_66 rfl ?_
    refine j_if_eq (tgt := 75) dL_told_68 (by decide) (fun _ => ?_) (fun h9 => absurd (rfl) h9)
    refine j_iconst (v := 0) dL_told_75 (by decide) ?_
    refine j_iadd dL_told_76 ?_
    refine j_istore dL_told_77 (by decide) rfl ?_
    refine j_iload dL_told_79 rfl ?_
    refine j_iload dL_told_81 rfl ?_
    refine j_if_eq (tgt := 103) dL_told_83 (by decide) (fun _ => ?_) (fun h9 => absurd (rfl) h9)
    refine j_iconst (v := 0) dL_told_103 (by decide) ?_
    refine j_iadd dL_told_104 ?_
    refine j_top ((show (1 : Int32) + 0 + 0 = nI 1 by decide)) ?_
    refine j_istore dL_told_105 (by decide) rfl ?_
    exact text μ3 _ 1 0 h2 (run_off hF hw.1 hT9 (by omega) hRt hV hRn)
