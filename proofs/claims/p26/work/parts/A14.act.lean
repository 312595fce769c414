/-! act() of the law -/
def actP (ap : Nat) (S : Nat → Option rw) (t : Nat) (B : Int) (μ' : zM) (E' : xE) : Prop := ∃ (a' : rw) (f' : Nat → Int32) (t' : Nat), E' = [(ap, 3, f')] ∧ OK μ' a' S 0 ∧ Lw a' t' ∧ t ≤ t' ∧ t' ≤ t + 9 ∧ PI f' a' ∧ ∀ c, c < 3 → (f' c).toInt ≤ B + 50000
theorem rem_1500 (x : Int32) : -1500 ≤ x - x / 1501 * 1501 ∧ x - x / 1501 * 1501 ≤ 1500 := by
  obtain ⟨h1, h2⟩ := rem_rng x (m := 1501) (by omega) (by omega)
  exact c_in (lo := -1500) (hi := 1500) _ _ (by decide) (by decide) (by show -1500 ≤ (x - x / nI 1501 * nI 1501).toInt; omega) (by show (x - x / nI 1501 * nI 1501).toInt ≤ 1500; omega)
theorem rem_700 (x : Int32) : -1500 ≤ x - x / 700 * 700 ∧ x - x / 700 * 700 ≤ 1500 := by
  obtain ⟨h1, h2⟩ := rem_rng x (m := 700) (by omega) (by omega)
  exact c_in (lo := -1500) (hi := 1500) _ _ (by decide) (by decide) (by show -1500 ≤ (x - x / nI 700 * nI 700).toInt; omega) (by show (x - x / nI 700 * nI 700).toInt ≤ 1500; omega)
set_option maxRecDepth 100000 in
theorem k_act {μ : zM} {a : rw} {S : Nat → Option rw} {t ap : Nat} {f : Nat → Int32} {B : Int} (h : OK μ a S 0) (hw : Lw a t) (ht : t ≤ 90000) (hf : PI f a) (hB : B ≤ 9000000) (hfB : ∀ c, c < 3 → (f c).toInt ≤ B) (v w z : Int32) : xCs yL_act method_5_code 12 (some .boolean) 9 4 36 [zR (0, 0, 0), xR ap, zI v, zI w, zI z] μ [(ap, 3, f)] (actP ap S t B) := by
  refine xCt.of "DyeTankLaw" rfl (by decide +kernel) rfl (Nat.le_of_ble_eq_true rfl) (fun K hR => ?_)
  have hF := h.2.1
  obtain ⟨hn2, hn12⟩ := Full_n hF
  have hIB := Full_IB hF
  have hk6 := hIB.2.2.2.2
  refine j_ls (ls' := [zR (0, 0, 0), xR ap, zI v, zI w, zI z, zN, zN, zN, zN, zN, zN, zN]) rfl ?_
  refine j_aload_n dL_act_0 rfl rfl ?_
  refine j_iconst (v := 1) dL_act_1 (by decide) ?_
  refine j_cVi (o_state h 1) q_X3_state tw_196 dL_act_2 rfl rfl rfl (by omega) (Nat.le_of_ble_eq_true rfl) (by omega) (by omega) ?_ zv_0
  refine j_top ((st_1.trans hIB.1)) ?_
  generalize hn : rN a = n at hn2 hn12
  refine j_istore dL_act_5 (by decide) rfl ?_
  refine j_iload_n dL_act_7 rfl rfl ?_
  refine j_iload dL_act_8 rfl ?_
  refine j_cSi (c_up _ (nI n) (nI_ne0 (by omega) (by omega))) q_L_up tw_189 dL_act_10 rfl rfl (by omega) (Nat.le_of_ble_eq_true rfl) (by omega) (by omega) ?_
  obtain ⟨r, hr, er⟩ := up_ex w (m := n) (by omega) (by omega)
  refine j_top (er) ?_
  refine j_istore dL_act_13 (by decide) rfl ?_
  refine j_iload_n dL_act_15 rfl rfl ?_
  refine j_bipush (v := 9) dL_act_16 (by decide) ?_
  refine j_cSi (c_up _ 9 (by decide)) q_L_up tw_189 dL_act_18 rfl rfl (by omega) (Nat.le_of_ble_eq_true rfl) (by omega) (by omega) ?_
  obtain ⟨u, hu, eu⟩ := up_ex v (m := 9) (by omega) (by omega)
  refine j_top (eu) ?_
  have done : ∀ {μ' : zM} {a' : rw} {t' : Nat}, OK μ' a' S 0 → Lw a' t' → t ≤ t' → t' ≤ t + 9 → PI f a' → actP ap S t B μ' [(ap, 3, f)] := fun h1 h2 h3 h4 h5 => ⟨_, f, _, rfl, h1, h2, h3, h4, h5, fun c hc => by have := hfB c hc; omega⟩
  have march : Xj K 9 4 36 "DyeTankLaw" method_5_code 12 68 [zR (0, 0, 0), xR ap, zI v, zI w, zI z, zI (nI n), zI (nI r), zN, zN, zN, zN, zN] [] μ [(ap, 3, f)] 0 0 := by
    obtain ⟨u2, hu2, eu2⟩ := up_ex w (m := 9) (by omega) (by omega)
    refine j_iconst (v := 1) dL_act_68 (by decide) ?_
    refine j_iload_n dL_act_69 rfl rfl ?_
    refine j_bipush (v := 9) dL_act_70 (by decide) ?_
    refine j_cSi (c_up _ 9 (by decide)) q_L_up tw_189 dL_act_72 rfl rfl (by omega) (Nat.le_of_ble_eq_true rfl) (by omega) (by omega) ?_
    refine j_top (eu2) ?_
    refine j_iadd dL_act_75 ?_
    refine j_top ((nI_add 1 u2)) ?_
    refine j_istore dL_act_76 (by decide) rfl ?_
    refine j_aload_n dL_act_78 rfl rfl ?_
    refine j_iload dL_act_79 rfl ?_
    refine j_cSs (k_marched h hw (N := 1 + u2) (by omega) (by omega) [(ap, 3, f)]) q_L_marched tw_225 dL_act_81 rfl rfl (by omega) (Nat.le_of_ble_eq_true rfl) (by omega) (by omega) (fun μ2 E2 ⟨e2, h2⟩ => ?_)
    subst e2
    refine j_bret hR dL_act_84 (Or.inr rfl) (⟨rfl, done h2 (hw.it hF _ (by omega) (by omega)) (by omega) (by omega) (hf.it hF (by omega))⟩) (by omega) (by omega)
  have pour : Xj K 9 4 36 "DyeTankLaw" method_5_code 12 85 [zR (0, 0, 0), xR ap, zI v, zI w, zI z, zI (nI n), zI (nI r), zN, zN, zN, zN, zN] [] μ [(ap, 3, f)] 0 0 := by
    refine j_iload_n dL_act_85 rfl rfl ?_
    refine j_iconst (v := 4) dL_act_86 (by decide) ?_
    refine j_ishr dL_act_87 ?_
    refine j_iconst (v := 3) dL_act_88 (by decide) ?_
    refine j_cSi (c_up _ 3 (by decide)) q_L_up tw_189 dL_act_89 rfl rfl (by omega) (Nat.le_of_ble_eq_true rfl) (by omega) (by omega) ?_
    obtain ⟨c, hc, ec⟩ := up_ex (w >>> (4 &&& 31)) (m := 3) (by omega) (by omega)
    refine j_top (ec) ?_
    refine j_istore dL_act_92 (by decide) rfl ?_
    refine j_iload_n dL_act_94 rfl rfl ?_
    refine j_bipush (v := 6) dL_act_95 (by decide) ?_
    refine j_ishr dL_act_97 ?_
    refine j_iconst (v := 2) dL_act_98 (by decide) ?_
    refine j_cSi (c_up _ 2 (by decide)) q_L_up tw_189 dL_act_99 rfl rfl (by omega) (Nat.le_of_ble_eq_true rfl) (by omega) (by omega) ?_
    obtain ⟨L, hL, eL⟩ := up_ex (w >>> (6 &&& 31)) (m := 2) (by omega) (by omega)
    refine j_top (eL) ?_
    refine j_istore dL_act_102 (by decide) rfl ?_
    refine j_iload_n dL_act_104 rfl rfl ?_
    refine j_bipush (v := 7) dL_act_105 (by decide) ?_
    refine j_ishr dL_act_107 ?_
    refine j_bipush (v := 24) dL_act_108 (by decide) ?_
    refine j_cSi (c_up _ 24 (by decide)) q_L_up tw_189 dL_act_110 rfl rfl (by omega) (Nat.le_of_ble_eq_true rfl) (by omega) (by omega) ?_
    obtain ⟨s, hs, es⟩ := up_ex (w >>> (7 &&& 31)) (m := 24) (by omega) (by omega)
    refine j_top (es) ?_
    refine j_istore dL_act_113 (by decide) rfl ?_
    refine j_iconst (v := 1) dL_act_115 (by decide) ?_
    refine j_iload dL_act_116 rfl ?_
    refine j_ldc (v := 50000) dL_act_118 tw_337 ?_
    refine j_cSi (c_up _ 50000 (by decide)) q_L_up tw_189 dL_act_120 rfl rfl (by omega) (Nat.le_of_ble_eq_true rfl) (by omega) (by omega) ?_
    obtain ⟨u2, hu2, eu2⟩ := up_ex z (m := 50000) (by omega) (by omega)
    refine j_top (eu2) ?_
    refine j_iadd dL_act_123 ?_
    refine j_top ((nI_add 1 u2)) ?_
    refine j_istore dL_act_124 (by decide) rfl ?_
    refine j_aload_n dL_act_126 rfl rfl ?_
    refine j_iload dL_act_127 rfl ?_
    refine j_iload dL_act_129 rfl ?_
    refine j_iload dL_act_131 rfl ?_
    refine j_iload dL_act_133 rfl ?_
    refine j_cVi (o_dye h _ _ _ _) q_X3_dye tw_338 dL_act_135 rfl rfl rfl (by omega) (Nat.le_of_ble_eq_true rfl) (by omega) (by omega) ?_ zv_0
    refine j_top ((rv_dye hn hc hL hr hn12 hs)) ?_
    refine j_istore dL_act_138 (by decide) rfl ?_
    refine j_aload_n dL_act_140 rfl rfl ?_
    refine j_iload dL_act_141 rfl ?_
    refine j_dup2 dL_act_143 rfl rfl ?_
    refine j_iald (k0 := 0) dL_act_144 rfl rfl hc (by decide) ?_
    refine j_iload dL_act_145 rfl ?_
    refine j_iadd dL_act_147 ?_
    refine j_iast (k0 := 0) dL_act_148 rfl rfl hc (by decide) ?_
    refine j_aload_n dL_act_149 rfl rfl ?_
    refine j_iload dL_act_150 rfl ?_
    refine j_iload dL_act_152 rfl ?_
    refine j_iload dL_act_154 rfl ?_
    refine j_iload dL_act_156 rfl ?_
    refine j_iload dL_act_158 rfl ?_
    refine j_cVs (g_pour h hc hL (by rw [hn]; exact hr) hs (M := 1 + u2) (by omega) (by rw [← hf c hc]; have := hfB c hc; omega)) q_X3_pour tw_353 dL_act_160 rfl rfl rfl (by omega) (Nat.le_of_ble_eq_true rfl) (by omega) (by omega) (fun μ2 w2 ⟨ew, h2⟩ => ?_) zv_0
    subst ew
    have h2 : OK μ2 (poA a c L r s (nI (1 + u2))) S 0 := h2
    have en2 : rN (poA a c L r s (nI (1 + u2))) = n := (rN_up (poA_lo a c L r s _ (by omega))).trans hn
    refine j_aload_n dL_act_163 rfl rfl ?_
    refine j_iload dL_act_164 rfl ?_
    refine j_iald (k0 := 0) dL_act_166 rfl rfl hc (by decide) ?_
    refine j_icmp_ne (tgt := 194) dL_act_167 (by decide) (fun h9 => absurd h9 (fun q => q (by rw [← hf c hc]; exact (if_pos rfl).symm))) (fun _ => ?_)
    refine j_aload_n dL_act_170 rfl rfl ?_
    refine j_iload dL_act_171 rfl ?_
    refine j_iload dL_act_173 rfl ?_
    refine j_iload dL_act_175 rfl ?_
    refine j_iload dL_act_177 rfl ?_
    refine j_cVi (o_dye h2 _ _ _ _) q_X3_dye tw_338 dL_act_179 rfl rfl rfl (by omega) (Nat.le_of_ble_eq_true rfl) (by omega) (by omega) ?_ zv_0
    refine j_top ((rv_dye en2 hc hL hr hn12 hs)) ?_
    refine j_iload dL_act_182 rfl ?_
    refine j_iload dL_act_184 rfl ?_
    refine j_iadd dL_act_186 ?_
    refine j_icmp_ne (tgt := 194) dL_act_187 (by decide) (fun h9 => absurd h9 (fun q => q (poA_at a _ hc hL (by omega)))) (fun _ => ?_)
    refine j_iconst (v := 1) dL_act_190 (by decide) ?_
    refine j_goto (tgt := 195) dL_act_191 (by decide) ?_
    have hP := hf.pour (s := s) (nI (1 + u2)) hc hL (by rw [hn]; exact hr) (by rw [hn]; exact hn12)
    refine j_bret hR dL_act_195 (Or.inr rfl) ⟨rfl, poA a c L r s (nI (1 + u2)), upd f c (f c + nI (1 + u2)), t, rfl, h2, hw.up hk6 (fun k hk => poA_lo a c L r s _ (by omega)), by omega, by omega, hP, fun c' hc' => ?_⟩ (by omega) (by omega)
    have g1 := hfB c' hc'
    unfold upd
    split
    · next e =>
      subst e
      have g2 := (Full_Gd hF).1.2.2 c' hc'
      rw [← hf c' hc'] at g2
      rw [Int32.toInt_add, nI_toInt (by omega), Int.bmod_eq_of_le (by omega) (by omega)]
      omega
    · omega
  rcases (show u = 0 ∨ u = 1 ∨ u = 2 ∨ u = 3 ∨ u = 4 ∨ u = 5 ∨ u = 6 ∨ u = 7 ∨ u = 8 by omega) with rfl | rfl | rfl | rfl | rfl | rfl | rfl | rfl | rfl
  · refine j_tabIn (tgt := 68) (off := 47) dL_act_21 (by decide) (by decide) rfl (by decide) march
  · refine j_tabIn (tgt := 68) (off := 47) dL_act_21 (by decide) (by decide) rfl (by decide) march
  · refine j_tabIn (tgt := 68) (off := 47) dL_act_21 (by decide) (by decide) rfl (by decide) march
  · refine j_tabIn (tgt := 85) (off := 64) dL_act_21 (by decide) (by decide) rfl (by decide) pour
  · refine j_tabIn (tgt := 85) (off := 64) dL_act_21 (by decide) (by decide) rfl (by decide) pour
  · refine j_tabIn (tgt := 196) (off := 175) dL_act_21 (by decide) (by decide) rfl (by decide) ?_
    obtain ⟨y, hy⟩ : ∃ y, y = z - z / 1501 * 1501 := ⟨_, rfl⟩
    have hv : -1500 ≤ y ∧ y ≤ 1500 := by rw [hy]; exact rem_1500 z
    refine j_aload_n dL_act_196 rfl rfl ?_
    refine j_iconst (v := 3) dL_act_197 (by decide) ?_
    refine j_cVi (o_state h 3) q_X3_state tw_196 dL_act_198 rfl rfl rfl (by omega) (Nat.le_of_ble_eq_true rfl) (by omega) (by omega) ?_ zv_0
    refine j_top ((sv_3 hn)) ?_
    refine j_aload_n dL_act_201 rfl rfl ?_
    refine j_iload dL_act_202 rfl ?_
    refine j_iconst (v := 1) dL_act_204 (by decide) ?_
    refine j_cVi (o_ring h _ _) q_X3_ring tw_228 dL_act_205 rfl rfl rfl (by omega) (Nat.le_of_ble_eq_true rfl) (by omega) (by omega) ?_ zv_0
    refine j_top ((rv_mom hn hr hn12)) ?_
    refine j_isub dL_act_208 ?_
    refine j_istore dL_act_209 (by decide) rfl ?_
    refine j_aload_n dL_act_211 rfl rfl ?_
    refine j_iload dL_act_212 rfl ?_
    refine j_iload dL_act_214 rfl ?_
    refine j_sipush (v := 1501) dL_act_216 (by decide) ?_
    refine j_irem dL_act_219 (by decide) ?_
    refine j_top (hy.symm) ?_
    refine j_cVs (g_spin h (r := r) (by rw [hn]; exact hr) hv) q_X3_spin tw_359 dL_act_220 rfl rfl rfl (by omega) (Nat.le_of_ble_eq_true rfl) (by omega) (by omega) (fun μ2 w2 ⟨ew, h2⟩ => ?_) zv_0
    have hvel := Full_vel hF (r := r) (by omega)
    rw [← ew] at hvel
    have en2 : rN (upd a (9 + r) (y * nI (2 * r + 1))) = n := (rN_up (if_neg (by omega))).trans hn
    refine j_ldc (v := -2000000000) dL_act_223 tw_370 ?_
    refine j_icmp_ne (tgt := 232) dL_act_225 (by decide) (fun _ => ?_) (fun h9 => absurd h9 (fun q => by rw [q, show (-2000000000 : Int32).toInt = -2000000000 by decide] at hvel; omega))
    refine j_iconst (v := 0) dL_act_232 (by decide) ?_
    refine j_if_ne (tgt := 297) dL_act_233 (by decide) (fun h9 => absurd h9 (fun q => q rfl)) (fun _ => ?_)
    refine j_aload_n dL_act_236 rfl rfl ?_
    refine j_iload dL_act_237 rfl ?_
    refine j_iconst (v := 0) dL_act_239 (by decide) ?_
    refine j_cVi (o_ring h2 _ _) q_X3_ring tw_228 dL_act_240 rfl rfl rfl (by omega) (Nat.le_of_ble_eq_true rfl) (by omega) (by omega) ?_ zv_0
    refine j_top (((rv_vel en2 hr hn12).trans (vel_spin (by omega) hv))) ?_
    refine j_iload dL_act_243 rfl ?_
    refine j_sipush (v := 1501) dL_act_245 (by decide) ?_
    refine j_irem dL_act_248 (by decide) ?_
    refine j_top (hy.symm) ?_
    refine j_icmp_ne (tgt := 297) dL_act_249 (by decide) (fun h9 => absurd h9 (fun q => q rfl)) (fun _ => ?_)
    refine j_aload_n dL_act_252 rfl rfl ?_
    refine j_iload dL_act_253 rfl ?_
    refine j_iconst (v := 1) dL_act_255 (by decide) ?_
    refine j_cVi (o_ring h2 _ _) q_X3_ring tw_228 dL_act_256 rfl rfl rfl (by omega) (Nat.le_of_ble_eq_true rfl) (by omega) (by omega) ?_ zv_0
    refine j_top (((rv_mom en2 hr hn12).trans (mom_spin _))) ?_
    refine j_iload dL_act_259 rfl ?_
    refine j_sipush (v := 1501) dL_act_261 (by decide) ?_
    refine j_irem dL_act_264 (by decide) ?_
    refine j_top (hy.symm) ?_
    refine j_iconst (v := 2) dL_act_265 (by decide) ?_
    refine j_iload dL_act_266 rfl ?_
    refine j_imul dL_act_268 ?_
    refine j_iconst (v := 1) dL_act_269 (by decide) ?_
    refine j_iadd dL_act_270 ?_
    refine j_imul dL_act_271 ?_
    refine j_icmp_ne (tgt := 297) dL_act_272 (by decide) (fun h9 => absurd h9 (fun q => q (by rw [wt_eq]))) (fun _ => ?_)
    refine j_aload_n dL_act_275 rfl rfl ?_
    refine j_iconst (v := 3) dL_act_276 (by decide) ?_
    refine j_cVi (o_state h2 3) q_X3_state tw_196 dL_act_277 rfl rfl rfl (by omega) (Nat.le_of_ble_eq_true rfl) (by omega) (by omega) ?_ zv_0
    refine j_top (((sv_3 en2).trans (sm_spin _ hr))) ?_
    refine j_iload dL_act_280 rfl ?_
    refine j_aload_n dL_act_282 rfl rfl ?_
    refine j_iload dL_act_283 rfl ?_
    refine j_iconst (v := 1) dL_act_285 (by decide) ?_
    refine j_cVi (o_ring h2 _ _) q_X3_ring tw_228 dL_act_286 rfl rfl rfl (by omega) (Nat.le_of_ble_eq_true rfl) (by omega) (by omega) ?_ zv_0
    refine j_top (((rv_mom en2 hr hn12).trans (mom_spin _))) ?_
    refine j_iadd dL_act_289 ?_
    refine j_icmp_ne (tgt := 297) dL_act_290 (by decide) (fun h9 => absurd h9 (fun q => q rfl)) (fun _ => ?_)
    refine j_iconst (v := 1) dL_act_293 (by decide) ?_
    refine j_goto (tgt := 298) dL_act_294 (by decide) ?_
    refine j_bret hR dL_act_298 (Or.inr rfl) (⟨rfl, done h2 (hw.up hk6 (fun k hk => if_neg (by omega))) (by omega) (by omega) (hf.up (if_neg (by omega)) (by rw [hn]; exact hn12) (fun k hk => if_neg (by omega)))⟩) (by omega) (by omega)
  · refine j_tabIn (tgt := 299) (off := 278) dL_act_21 (by decide) (by decide) rfl (by decide) ?_
    obtain ⟨x, hx⟩ : ∃ x, x = w - w / 700 * 700 := ⟨_, rfl⟩
    obtain ⟨y, hy⟩ : ∃ y, y = z - z / 700 * 700 := ⟨_, rfl⟩
    have hx2 : -1500 ≤ x ∧ x ≤ 1500 := by rw [hx]; exact rem_700 w
    have hy2 : -1500 ≤ y ∧ y ≤ 1500 := by rw [hy]; exact rem_700 z
    refine j_aload_n dL_act_299 rfl rfl ?_
    refine j_iload_n dL_act_300 rfl rfl ?_
    refine j_sipush (v := 700) dL_act_301 (by decide) ?_
    refine j_irem dL_act_304 (by decide) ?_
    refine j_top (hx.symm) ?_
    refine j_iload dL_act_305 rfl ?_
    refine j_sipush (v := 700) dL_act_307 (by decide) ?_
    refine j_irem dL_act_310 (by decide) ?_
    refine j_top (hy.symm) ?_
    refine j_cVs (g_spinAll h hx2 hy2) q_X3_spinAll tw_371 dL_act_311 rfl rfl rfl (by omega) (Nat.le_of_ble_eq_true rfl) (by omega) (by omega) (fun μ2 w2 ⟨ew, h2⟩ => ?_) zv_0
    have h2 : OK μ2 (spA a x y) S 0 := h2
    have ew : w2 = sm (aP (spA a x y)) n := by rw [ew, ← hn]; rfl
    subst ew
    have en2 : rN (spA a x y) = n := (rN_up (spA_out a x y (by omega))).trans hn
    refine j_istore dL_act_314 (by decide) rfl ?_
    refine j_iload dL_act_316 rfl ?_
    refine j_aload_n dL_act_318 rfl rfl ?_
    refine j_iconst (v := 3) dL_act_319 (by decide) ?_
    refine j_cVi (o_state h2 3) q_X3_state tw_196 dL_act_320 rfl rfl rfl (by omega) (Nat.le_of_ble_eq_true rfl) (by omega) (by omega) ?_ zv_0
    refine j_top ((sv_3 en2)) ?_
    refine j_icmp_ne (tgt := 362) dL_act_323 (by decide) (fun h9 => absurd h9 (fun q => q rfl)) (fun _ => ?_)
    refine j_aload_n dL_act_326 rfl rfl ?_
    refine j_iconst (v := 0) dL_act_327 (by decide) ?_
    refine j_iconst (v := 0) dL_act_328 (by decide) ?_
    refine j_cVi (o_ring h2 _ _) q_X3_ring tw_228 dL_act_329 rfl rfl rfl (by omega) (Nat.le_of_ble_eq_true rfl) (by omega) (by omega) ?_ zv_0
    refine j_top (((rv_vel (r := 0) en2 (by omega) hn12).trans (spA_0 a hx2 hy2 (by omega) (by omega)))) ?_
    refine j_iload_n dL_act_332 rfl rfl ?_
    refine j_sipush (v := 700) dL_act_333 (by decide) ?_
    refine j_irem dL_act_336 (by decide) ?_
    refine j_top (hx.symm) ?_
    refine j_icmp_ne (tgt := 362) dL_act_337 (by decide) (fun h9 => absurd h9 (fun q => q rfl)) (fun _ => ?_)
    refine j_aload_n dL_act_340 rfl rfl ?_
    refine j_iload dL_act_341 rfl ?_
    refine j_iconst (v := 1) dL_act_343 (by decide) ?_
    refine j_isub dL_act_344 ?_
    refine j_top ((nI_s1 (show 1 ≤ n by omega))) ?_
    have e9 := spA_n a hx2 hy2 (by omega) (by omega)
    rw [hn] at e9
    refine j_iconst (v := 0) dL_act_345 (by decide) ?_
    refine j_cVi (o_ring h2 _ _) q_X3_ring tw_228 dL_act_346 rfl rfl rfl (by omega) (Nat.le_of_ble_eq_true rfl) (by omega) (by omega) ?_ zv_0
    refine j_top (((rv_vel (r := n - 1) en2 (by omega) hn12).trans e9)) ?_
    refine j_iload dL_act_349 rfl ?_
    refine j_sipush (v := 700) dL_act_351 (by decide) ?_
    refine j_irem dL_act_354 (by decide) ?_
    refine j_top (hy.symm) ?_
    refine j_icmp_ne (tgt := 362) dL_act_355 (by decide) (fun h9 => absurd h9 (fun q => q rfl)) (fun _ => ?_)
    refine j_iconst (v := 1) dL_act_358 (by decide) ?_
    refine j_goto (tgt := 363) dL_act_359 (by decide) ?_
    refine j_bret hR dL_act_363 (Or.inr rfl) (⟨rfl, done h2 (hw.up hk6 (fun k hk => spA_out a x y (by omega))) (by omega) (by omega) (hf.up (spA_out a x y (by omega)) (by rw [hn]; exact hn12) (fun k hk => spA_out a x y (by omega)))⟩) (by omega) (by omega)
  · refine j_tabIn (tgt := 364) (off := 343) dL_act_21 (by decide) (by decide) rfl (by decide) ?_
    refine j_iload_n dL_act_364 rfl rfl ?_
    refine j_bipush (v := 7) dL_act_365 (by decide) ?_
    refine j_cSi (c_up _ 7 (by decide)) q_L_up tw_189 dL_act_367 rfl rfl (by omega) (Nat.le_of_ble_eq_true rfl) (by omega) (by omega) ?_
    obtain ⟨k, hk, ek⟩ := up_ex w (m := 7) (by omega) (by omega)
    refine j_top (ek) ?_
    have join : ∀ y, takesP (nI k) y → Xj K 9 4 36 "DyeTankLaw" method_5_code 12 435 [zR (0, 0, 0), xR ap, zI v, zI w, zI z, zI (nI n), zI (nI r), zI (nI k), zN, zN, zN, zN] [zI y] μ [(ap, 3, f)] 0 0 := by
      intro y hy
      refine j_istore dL_act_435 (by decide) rfl ?_
      refine j_aload_n dL_act_437 rfl rfl ?_
      refine j_iload dL_act_438 rfl ?_
      refine j_iload dL_act_440 rfl ?_
      refine j_cVs (g_set h hk hy) q_X3_set tw_380 dL_act_442 rfl rfl rfl (by omega) (Nat.le_of_ble_eq_true rfl) (by omega) (by omega) (fun μ2 w2 h2 => ?_) zv_0
      refine j_pop dL_act_445 rfl ?_
      refine j_aload_n dL_act_446 rfl rfl ?_
      refine j_bipush (v := 6) dL_act_447 (by decide) ?_
      refine j_iload dL_act_449 rfl ?_
      refine j_iadd dL_act_451 ?_
      refine j_cVi (o_state h2 _) q_X3_state tw_196 dL_act_452 rfl rfl rfl (by omega) (Nat.le_of_ble_eq_true rfl) (by omega) (by omega) ?_ zv_0
      refine j_top (((st_s hk).trans (show upd a (2 + k) y (2 + k) = y from if_pos rfl))) ?_
      refine j_iload dL_act_455 rfl ?_
      refine j_icmp_ne (tgt := 464) dL_act_457 (by decide) (fun h9 => absurd h9 (fun q => q rfl)) (fun _ => ?_)
      refine j_iconst (v := 1) dL_act_460 (by decide) ?_
      refine j_goto (tgt := 465) dL_act_461 (by decide) ?_
      refine j_bret hR dL_act_465 (Or.inr rfl) (⟨rfl, done h2 (hw.up hk6 (fun j hj => if_neg (by omega))) (by omega) (by omega) (hf.up (if_neg (by omega)) (by rw [hn]; exact hn12) (fun j hj => if_neg (by omega)))⟩) (by omega) (by omega)
    have rest : ¬ k = 2 → ¬ k = 4 → Xj K 9 4 36 "DyeTankLaw" method_5_code 12 393 [zR (0, 0, 0), xR ap, zI v, zI w, zI z, zI (nI n), zI (nI r), zI (nI k), zN, zN, zN, zN] [] μ [(ap, 3, f)] 0 0 := by
      intro k2 k4
      refine j_iload dL_act_393 rfl ?_
      refine j_iconst (v := 5) dL_act_395 (by decide) ?_
      refine j_icmp_ne (tgt := 410) dL_act_396 (by decide) (fun h5 => ?_) (fun h5 => ?_)
      · refine j_iload dL_act_410 rfl ?_
        refine j_bipush (v := 6) dL_act_412 (by decide) ?_
        refine j_icmp_ne (tgt := 428) dL_act_414 (by decide) (fun h6 => ?_) (fun h6 => ?_)
        · refine j_iload dL_act_428 rfl ?_
          refine j_bipush (v := 101) dL_act_430 (by decide) ?_
          refine j_cSi (c_up _ 101 (by decide)) q_L_up tw_189 dL_act_432 rfl rfl (by omega) (Nat.le_of_ble_eq_true rfl) (by omega) (by omega) ?_
          obtain ⟨y, hy, ey⟩ := up_ex z (m := 101) (by omega) (by omega)
          refine j_top (ey) ?_
          have k5 : ¬ k = 5 := fun e => h5 (by rw [e]; rfl)
          have k6 : ¬ k = 6 := fun e => h6 (by rw [e]; rfl)
          refine join _ (Or.inl ⟨?_, n_in 0 100 (by omega)⟩)
          rcases (show k = 0 ∨ k = 1 ∨ k = 3 by omega) with rfl | rfl | rfl
          · exact Or.inl rfl
          · exact Or.inr (Or.inl rfl)
          · exact Or.inr (Or.inr rfl)
        · refine j_iload dL_act_417 rfl ?_
          refine j_sipush (v := 501) dL_act_419 (by decide) ?_
          refine j_cSi (c_up _ 501 (by decide)) q_L_up tw_189 dL_act_422 rfl rfl (by omega) (Nat.le_of_ble_eq_true rfl) (by omega) (by omega) ?_
          obtain ⟨y, hy, ey⟩ := up_ex z (m := 501) (by omega) (by omega)
          refine j_top (ey) ?_
          refine j_goto (tgt := 435) dL_act_425 (by decide) ?_
          exact join _ (Or.inr (Or.inr (Or.inr ⟨h6, n_in 0 500 (by omega)⟩)))
      · refine j_iload dL_act_399 rfl ?_
        refine j_sipush (v := 201) dL_act_401 (by decide) ?_
        refine j_cSi (c_up _ 201 (by decide)) q_L_up tw_189 dL_act_404 rfl rfl (by omega) (Nat.le_of_ble_eq_true rfl) (by omega) (by omega) ?_
        obtain ⟨y, hy, ey⟩ := up_ex z (m := 201) (by omega) (by omega)
        refine j_top (ey) ?_
        refine j_goto (tgt := 435) dL_act_407 (by decide) ?_
        exact join _ (Or.inr (Or.inr (Or.inl ⟨h5, n_in 0 200 (by omega)⟩)))
    have spd : (nI k = 2 ∨ nI k = 4) → Xj K 9 4 36 "DyeTankLaw" method_5_code 12 384 [zR (0, 0, 0), xR ap, zI v, zI w, zI z, zI (nI n), zI (nI r), zI (nI k), zN, zN, zN, zN] [] μ [(ap, 3, f)] 0 0 := by
      intro hk2
      refine j_iload dL_act_384 rfl ?_
      refine j_sipush (v := 700) dL_act_386 (by decide) ?_
      refine j_irem dL_act_389 (by decide) ?_
      refine j_goto (tgt := 435) dL_act_390 (by decide) ?_
      exact join _ (Or.inr (Or.inl ⟨hk2, rem_700 z⟩))
    refine j_istore dL_act_370 (by decide) rfl ?_
    refine j_iload dL_act_372 rfl ?_
    refine j_iconst (v := 2) dL_act_374 (by decide) ?_
    refine j_icmp_eq (tgt := 384) dL_act_375 (by decide) (fun h2 => ?_) (fun h2 => ?_)
    · exact spd (Or.inl h2)
    · refine j_iload dL_act_378 rfl ?_
      refine j_iconst (v := 4) dL_act_380 (by decide) ?_
      refine j_icmp_ne (tgt := 393) dL_act_381 (by decide) (fun h4 => ?_) (fun h4 => ?_)
      · exact rest (fun e => h2 (by rw [e]; rfl)) (fun e => h4 (by rw [e]; rfl))
      · exact spd (Or.inr h4)
  · refine j_tabOut (tgt := 466) dL_act_21 (by decide) (by decide) ?_
    refine j_aload_n dL_act_466 rfl rfl ?_
    refine j_iconst (v := 2) dL_act_467 (by decide) ?_
    refine j_cVi (o_state h 2) q_X3_state tw_196 dL_act_468 rfl rfl rfl (by omega) (Nat.le_of_ble_eq_true rfl) (by omega) (by omega) ?_ zv_0
    refine j_top ((st_2.trans hIB.2.2.2.1)) ?_
    refine j_istore dL_act_471 (by decide) rfl ?_
    refine j_iload_n dL_act_473 rfl rfl ?_
    refine j_sipush (v := 1000) dL_act_474 (by decide) ?_
    refine j_iload dL_act_477 rfl ?_
    refine j_imul dL_act_479 ?_
    refine j_top ((pk_mul 1000 n)) ?_
    refine j_cSi (c_up _ (nI (1000 * n)) (nI_ne0 (by omega) (by omega))) q_L_up tw_189 dL_act_480 rfl rfl (by omega) (Nat.le_of_ble_eq_true rfl) (by omega) (by omega) ?_
    obtain ⟨p, hp, ep⟩ := up_ex w (m := 1000 * n) (by omega) (by omega)
    refine j_top (ep) ?_
    refine j_istore dL_act_483 (by decide) rfl ?_
    refine j_aload_n dL_act_485 rfl rfl ?_
    refine j_iload dL_act_486 rfl ?_
    refine j_iload dL_act_488 rfl ?_
    refine j_sipush (v := 3600) dL_act_490 (by decide) ?_
    refine j_cSi (c_up _ 3600 (by decide)) q_L_up tw_189 dL_act_493 rfl rfl (by omega) (Nat.le_of_ble_eq_true rfl) (by omega) (by omega) ?_
    obtain ⟨g, hg, eg⟩ := up_ex z (m := 3600) (by omega) (by omega)
    refine j_top (eg) ?_
    refine j_cVs (g_marker h (by rw [hn]; exact hp) hg) q_X3_marker tw_388 dL_act_496 rfl rfl rfl (by omega) (Nat.le_of_ble_eq_true rfl) (by omega) (by omega) (fun μ2 w2 h2 => ?_) zv_0
    refine j_istore dL_act_499 (by decide) rfl ?_
    refine j_iload dL_act_501 rfl ?_
    refine j_bipush (v := 6) dL_act_503 (by decide) ?_
    rcases h2 with ⟨k6, ew, em⟩ | ⟨k6, ew, h2⟩
    · subst ew em
      refine j_icmp_ne (tgt := 523) dL_act_505 (by decide) (fun h9 => absurd h9 (fun q => q (by rw [k6]; rfl))) (fun _ => ?_)
      refine j_iload dL_act_508 rfl ?_
      refine j_bipush (v := -4) dL_act_510 (by decide) ?_
      refine j_icmp_ne (tgt := 519) dL_act_512 (by decide) (fun h9 => absurd h9 (fun q => q rfl)) (fun _ => ?_)
      refine j_iconst (v := 1) dL_act_515 (by decide) ?_
      refine j_goto (tgt := 573) dL_act_516 (by decide) ?_
      refine j_bret hR dL_act_573 (Or.inr rfl) (⟨rfl, done h hw (by omega) (by omega) hf⟩) (by omega) (by omega)
    · subst ew
      have hm := hw.marker k6 (nI p) (nI g)
      have hP : PI f (upd (upd (upd (upd (upd a (34 + 104 * rK a) (nI p)) (34 + 104 * rK a + 1) (nI g)) (34 + 104 * rK a + 2) 0) (34 + 104 * rK a + 3) 0) 33 (nI (rK a + 1))) := hf.up (by unfold upd; rw [if_neg (by omega), if_neg (by omega), if_neg (by omega), if_neg (by omega), if_neg (by omega)]) (by rw [hn]; exact hn12) (fun j hj => by unfold upd; rw [if_neg (by omega), if_neg (by omega), if_neg (by omega), if_neg (by omega), if_neg (by omega)])
      have q0 : upd (upd (upd (upd (upd a (34 + 104 * rK a) (nI p)) (34 + 104 * rK a + 1) (nI g)) (34 + 104 * rK a + 2) 0) (34 + 104 * rK a + 3) 0) 33 (nI (rK a + 1)) (34 + 104 * rK a) = nI p := by
        unfold upd
        rw [if_neg (by omega), if_neg (by omega), if_neg (by omega), if_neg (by omega), if_pos rfl]
      have q2 : upd (upd (upd (upd (upd a (34 + 104 * rK a) (nI p)) (34 + 104 * rK a + 1) (nI g)) (34 + 104 * rK a + 2) 0) (34 + 104 * rK a + 3) 0) 33 (nI (rK a + 1)) (36 + 104 * rK a) = nI 0 := by
        unfold upd
        rw [if_neg (by omega), if_neg (by omega), if_pos (by omega)]
        rfl
      have q33 : upd (upd (upd (upd (upd a (34 + 104 * rK a) (nI p)) (34 + 104 * rK a + 1) (nI g)) (34 + 104 * rK a + 2) 0) (34 + 104 * rK a + 3) 0) 33 (nI (rK a + 1)) 33 = nI (rK a + 1) := if_pos rfl
      generalize upd (upd (upd (upd (upd a (34 + 104 * rK a) (nI p)) (34 + 104 * rK a + 1) (nI g)) (34 + 104 * rK a + 2) 0) (34 + 104 * rK a + 3) 0) 33 (nI (rK a + 1)) = b at h2 hm hP q0 q2 q33
      have ek : rK b = rK a + 1 := by
        show (b 33).toNatClampNeg = _
        rw [q33]
        exact nI_clamp (by omega)
      have hkb : rK b ≤ 6 := by omega
      have hmk : rK a < rK b := by omega
      refine j_icmp_ne (tgt := 523) dL_act_505 (by decide) (fun _ => ?_) (fun h9 => absurd h9 (fun q => by have := nI_inj (j := 6) (by omega) (by omega) q; omega))
      refine j_iload dL_act_523 rfl ?_
      refine j_iload dL_act_525 rfl ?_
      refine j_icmp_ne (tgt := 572) dL_act_527 (by decide) (fun h9 => absurd h9 (fun q => q rfl)) (fun _ => ?_)
      refine j_aload_n dL_act_530 rfl rfl ?_
      refine j_iload dL_act_531 rfl ?_
      refine j_iconst (v := 0) dL_act_533 (by decide) ?_
      refine j_cVi (o_where h2 _ _) q_X3_where tw_256 dL_act_534 rfl rfl rfl (by omega) (Nat.le_of_ble_eq_true rfl) (by omega) (by omega) ?_ zv_0
      refine j_top (((wh_0 hmk hkb).trans q0)) ?_
      refine j_iload dL_act_537 rfl ?_
      refine j_icmp_ne (tgt := 572) dL_act_539 (by decide) (fun h9 => absurd h9 (fun q => q rfl)) (fun _ => ?_)
      refine j_aload_n dL_act_542 rfl rfl ?_
      refine j_iload dL_act_543 rfl ?_
      refine j_iconst (v := 2) dL_act_545 (by decide) ?_
      refine j_cVi (o_where h2 _ _) q_X3_where tw_256 dL_act_546 rfl rfl rfl (by omega) (Nat.le_of_ble_eq_true rfl) (by omega) (by omega) ?_ zv_0
      refine j_top (((wh_2 hmk hkb).trans (congrArg (fun q => q / 1000) q0))) ?_
      refine j_iload dL_act_549 rfl ?_
      refine j_sipush (v := 1000) dL_act_551 (by decide) ?_
      refine j_idiv dL_act_554 (by decide) ?_
      refine j_icmp_ne (tgt := 572) dL_act_555 (by decide) (fun h9 => absurd h9 (fun q => q rfl)) (fun _ => ?_)
      refine j_aload_n dL_act_558 rfl rfl ?_
      refine j_iload dL_act_559 rfl ?_
      refine j_iconst (v := 3) dL_act_561 (by decide) ?_
      refine j_cVi (o_where h2 _ _) q_X3_where tw_256 dL_act_562 rfl rfl rfl (by omega) (Nat.le_of_ble_eq_true rfl) (by omega) (by omega) ?_ zv_0
      refine j_top ((wh_3 hmk hkb q2 (by omega))) ?_
      refine j_if_ne (tgt := 572) dL_act_565 (by decide) (fun h9 => absurd h9 (fun q => q (by decide))) (fun _ => ?_)
      refine j_iconst (v := 1) dL_act_568 (by decide) ?_
      refine j_goto (tgt := 573) dL_act_569 (by decide) ?_
      refine j_bret hR dL_act_573 (Or.inr rfl) (⟨rfl, done h2 hm (by omega) (by omega) hP⟩) (by omega) (by omega)
