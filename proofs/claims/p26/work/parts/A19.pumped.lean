/-! pumped() of the law -/
set_option maxRecDepth 100000 in
theorem k_pumped {μ : zM} {a : rw} {S : Nat → Option rw} {t ap : Nat} {fp : Nat → Int32} (h : OK μ a S 0) (hw : Lw a t) (ht : t ≤ 90000) (hf : PI fp a) (v : Int32) : xCs yL_pumped method_12_code 13 (some .boolean) 8 0 0 [zR (0, 0, 0), xR ap, zI v] μ [(ap, 3, fp)] (fun μ' E' => E' = [(ap, 3, fp)] ∧ ∃ S', OK μ' a S' 0) := by
  refine xCt.of "DyeTankLaw" rfl (by decide +kernel) rfl (Nat.le_of_ble_eq_true rfl) (fun K hR => ?_)
  have hF := h.2.1
  obtain ⟨hn2, hn12⟩ := Full_n hF
  have hIB := Full_IB hF
  refine j_ls (ls' := [zR (0, 0, 0), xR ap, zI v, zN, zN, zN, zN, zN, zN, zN, zN, zN, zN]) rfl ?_
  refine j_iload_n dL_pumped_0 rfl rfl ?_
  refine j_iconst (v := 3) dL_pumped_1 (by decide) ?_
  refine j_cSi (c_up _ 3 (by decide)) q_L_up tw_189 dL_pumped_2 rfl rfl (by omega) (Nat.le_of_ble_eq_true rfl) (by omega) (by omega) ?_
  obtain ⟨c, hc, ec⟩ := up_ex v (m := 3) (by omega) (by omega)
  refine j_top (ec) ?_
  refine j_istore_n dL_pumped_5 rfl (by decide) rfl ?_
  refine j_iload_n dL_pumped_6 rfl rfl ?_
  refine j_iconst (v := 2) dL_pumped_7 (by decide) ?_
  refine j_ishr dL_pumped_8 ?_
  refine j_sipush (v := 1000) dL_pumped_9 (by decide) ?_
  refine j_aload_n dL_pumped_12 rfl rfl ?_
  refine j_iconst (v := 1) dL_pumped_13 (by decide) ?_
  refine j_cVi (o_state h 1) q_X3_state tw_196 dL_pumped_14 rfl rfl rfl (by omega) (Nat.le_of_ble_eq_true rfl) (by omega) (by omega) ?_ zv_0
  refine j_top ((st_1.trans hIB.1)) ?_
  refine j_imul dL_pumped_17 ?_
  refine j_top ((pk_mul 1000 (rN a))) ?_
  refine j_cSi (c_up _ (nI (1000 * rN a)) (nI_ne0 (by omega) (by omega))) q_L_up tw_189 dL_pumped_18 rfl rfl (by omega) (Nat.le_of_ble_eq_true rfl) (by omega) (by omega) ?_
  obtain ⟨p0, hp0, ep0⟩ := up_ex (v >>> (2 &&& 31)) (m := 1000 * rN a) (by omega) (by omega)
  refine j_top (ep0) ?_
  have join : ∀ p, p ≤ 11000 → Xj K 8 0 0 "DyeTankLaw" method_12_code 13 39 [zR (0, 0, 0), xR ap, zI v, zI (nI c), zI (nI p0), zN, zN, zN, zN, zN, zN, zN, zN] [zI (nI p)] μ [(ap, 3, fp)] 0 0 := by
    intro p hp
    refine j_istore dL_pumped_39 (by decide) rfl ?_
    refine j_iconst (v := 1) dL_pumped_41 (by decide) ?_
    refine j_iload_n dL_pumped_42 rfl rfl ?_
    refine j_bipush (v := 9) dL_pumped_43 (by decide) ?_
    refine j_ishr dL_pumped_45 ?_
    refine j_iconst (v := 3) dL_pumped_46 (by decide) ?_
    refine j_cSi (c_up _ 3 (by decide)) q_L_up tw_189 dL_pumped_47 rfl rfl (by omega) (Nat.le_of_ble_eq_true rfl) (by omega) (by omega) ?_
    obtain ⟨m, hm, em⟩ := up_ex (v >>> (9 &&& 31)) (m := 3) (by omega) (by omega)
    refine j_top (em) ?_
    refine j_iadd dL_pumped_50 ?_
    refine j_top ((nI_add 1 m)) ?_
    obtain ⟨T, hT⟩ : ∃ T, T = 1 + m := ⟨_, rfl⟩
    rw [← hT]
    refine j_istore dL_pumped_51 (by decide) rfl ?_
    refine j_aload_n dL_pumped_53 rfl rfl ?_
    refine j_iload_n dL_pumped_54 rfl rfl ?_
    refine j_iload dL_pumped_55 rfl ?_
    refine j_iload dL_pumped_57 rfl ?_
    refine j_cVs (g_leastEkman h (p := p) (T := T) hc hp (by omega)) q_X3_leastEkman tw_491 dL_pumped_59 rfl rfl rfl (by omega) (Nat.le_of_ble_eq_true rfl) (by omega) (by omega) (fun μ1 w ⟨h1, hcs⟩ => ?_) zv_0
    refine j_istore dL_pumped_62 (by decide) rfl ?_
    refine j_aload_n dL_pumped_64 rfl rfl ?_
    refine j_iload_n dL_pumped_65 rfl rfl ?_
    refine j_iald (k0 := 0) dL_pumped_66 rfl rfl hc (by decide) ?_
    have hfc := hf c hc
    refine j_if_ne (tgt := 83) dL_pumped_67 (by decide) (fun h0 => ?_) (fun h0 => ?_)
    · rcases hcs with q | ⟨_, hfst⟩
      · exact absurd (hfc.trans q.1) h0
      · obtain ⟨lim, hlim, hcase, hiff⟩ := FST_use hfst (by omega)
        refine j_aload_n dL_pumped_83 rfl rfl ?_
        refine j_bipush (v := 11) dL_pumped_84 (by decide) ?_
        refine j_cVi (o_state h1 11) q_X3_state tw_196 dL_pumped_86 rfl rfl rfl (by omega) (Nat.le_of_ble_eq_true rfl) (by omega) (by omega) ?_ zv_0
        refine j_top (st_11) ?_
        refine j_istore dL_pumped_89 (by decide) rfl ?_
        refine j_iconst (v := 0) dL_pumped_91 (by decide) ?_
        refine j_istore dL_pumped_92 (by decide) rfl ?_
        have run : ∀ (k : Nat) (μ : zM) (S' : Nat → Option rw) (e : Nat), e ≤ lim → OK μ a S' 0 → (∀ (μ : zM) (S' : Nat → Option rw), OK μ a S' 0 → Xj K 8 0 0 "DyeTankLaw" method_12_code 13 245 [zR (0, 0, 0), xR ap, zI v, zI (nI c), zI (nI p0), zI (nI p), zI (nI T), zI w, zI (aS a 5), zI (nI k), zN, zN, zN] [] μ [(ap, 3, fp)] 0 0) → Xj K 8 0 0 "DyeTankLaw" method_12_code 13 164 [zR (0, 0, 0), xR ap, zI v, zI (nI c), zI (nI p0), zI (nI p), zI (nI T), zI w, zI (aS a 5), zI (nI k), zN, zN, zN] [zI (nI e)] μ [(ap, 3, fp)] 0 0 := by
          intro k μ S' e he hO hend
          refine j_istore dL_pumped_164 (by decide) rfl ?_
          refine j_iload dL_pumped_166 rfl ?_
          refine j_if_ge (tgt := 174) dL_pumped_168 (by decide) (fun _ => ?_) (fun h9 => absurd ((nI_pos' (show e < 2 ^ 31 by omega))) h9)
          have tk : takesP (nI 5) (nI e) := Or.inr (Or.inr (Or.inl ⟨rfl, n_in 0 200 (by omega)⟩))
          refine j_aload_n dL_pumped_174 rfl rfl ?_
          refine j_iconst (v := 0) dL_pumped_175 (by decide) ?_
          refine j_cVs (g_save hO (i := 0) (by omega)) q_X3_save tw_437 dL_pumped_176 rfl rfl rfl (by omega) (Nat.le_of_ble_eq_true rfl) (by omega) (by omega) (fun μ2 w2 ⟨ew, h2⟩ => ?_) zv_0
          refine j_istore dL_pumped_179 (by decide) rfl ?_
          refine j_aload_n dL_pumped_181 rfl rfl ?_
          refine j_iconst (v := 5) dL_pumped_182 (by decide) ?_
          refine j_iload dL_pumped_183 rfl ?_
          refine j_cVs (g_set h2 (j := 5) (by omega) tk) q_X3_set tw_380 dL_pumped_185 rfl rfl rfl (by omega) (Nat.le_of_ble_eq_true rfl) (by omega) (by omega) (fun μ3 w3 h3 => ?_) zv_0
          refine j_pop dL_pumped_188 rfl ?_
          subst ew
          have h3 : OK μ3 (upd a 7 (nI e)) (putS S' 0 a) 0 := h3
          have hF3 := h3.2.1
          have b1 : upd a 7 (nI e) 1 = nI t := hw.1
          refine j_aload_n dL_pumped_189 rfl rfl ?_
          refine j_iload dL_pumped_190 rfl ?_
          refine j_cVs (g_tick h3 (M := T) b1 (by omega) (by omega)) q_X3_tick tw_268 dL_pumped_192 rfl rfl rfl (by omega) (Nat.le_of_ble_eq_true rfl) (by omega) (by omega) (fun μ4 w4 ⟨_, h4⟩ => ?_) zv_0
          refine j_pop dL_pumped_195 rfl ?_
          have en : rN (itF T (upd a 7 (nI e))) = rN a := (it_N _ _).trans (rN_up rfl)
          have hq := hiff e he
          unfold ekmB at hq
          rw [decide_eq_true_iff] at hq
          refine j_aload_n dL_pumped_196 rfl rfl ?_
          refine j_iload_n dL_pumped_197 rfl rfl ?_
          refine j_iconst (v := 4) dL_pumped_198 (by decide) ?_
          refine j_cVl (o_colour h4 _ _) q_X3_colour tw_400 dL_pumped_199 rfl rfl rfl (by omega) (Nat.le_of_ble_eq_true rfl) (by omega) (by omega) ?_ zv_0
          refine j_topl ((cw_4 hc)) ?_
          rw [en]
          generalize meanP (aD (itF T (upd a 7 (nI e))) c) (rN a) (allA (aD (itF T (upd a 7 (nI e))) c) (rN a)) = X at hq
          refine j_iload dL_pumped_202 rfl ?_
          refine j_i2l dL_pumped_204 ?_
          refine j_lcmp dL_pumped_205 ?_
          have fin : ∀ z : Int32, z = (if nI e = w then 1 else 0) → Xj K 8 0 0 "DyeTankLaw" method_12_code 13 214 [zR (0, 0, 0), xR ap, zI v, zI (nI c), zI (nI p0), zI (nI p), zI (nI T), zI w, zI (aS a 5), zI (nI k), zI (nI e), zI (a 1), zN] [zI z] μ4 [(ap, 3, fp)] 0 0 := by
            intro z hz
            have rest : Xj K 8 0 0 "DyeTankLaw" method_12_code 13 233 [zR (0, 0, 0), xR ap, zI v, zI (nI c), zI (nI p0), zI (nI p), zI (nI T), zI w, zI (aS a 5), zI (nI k), zI (nI e), zI (a 1), zI z] [] μ4 [(ap, 3, fp)] 0 0 := by
              refine j_aload_n dL_pumped_233 rfl rfl ?_
              refine j_iconst (v := 0) dL_pumped_234 (by decide) ?_
              refine j_cVs (g_restore h4 (i := 0) (by omega) (putS_eq S' 0 a)) q_X3_restore tw_450 dL_pumped_235 rfl rfl rfl (by omega) (Nat.le_of_ble_eq_true rfl) (by omega) (by omega) (fun μ5 w5 ⟨ew5, h5⟩ => ?_) zv_0
              subst ew5
              refine j_iload dL_pumped_238 rfl ?_
              refine j_icmp_eq (tgt := 245) dL_pumped_240 (by decide) (fun _ => ?_) (fun h9 => absurd (rfl) h9)
              refine j_less (ls' := [zR (0, 0, 0), xR ap, zI v, zI (nI c), zI (nI p0), zI (nI p), zI (nI T), zI w, zI (aS a 5), zI (nI k), zN, zN, zN]) (by repeat' constructor) ?_
              exact hend μ5 _ h5
            refine j_istore dL_pumped_214 (by decide) rfl ?_
            refine j_iload dL_pumped_216 rfl ?_
            refine j_iload dL_pumped_218 rfl ?_
            refine j_iload dL_pumped_220 rfl ?_
            refine j_icmp_ne (tgt := 229) dL_pumped_222 (by decide) (fun hkn => ?_) (fun hkn => ?_)
            · rw [if_neg hkn] at hz
              refine j_iconst (v := 0) dL_pumped_229 (by decide) ?_
              refine j_icmp_ne (tgt := 243) dL_pumped_230 (by decide) (fun h9 => absurd h9 (fun q => q hz)) (fun _ => ?_)
              exact rest
            · rw [if_pos hkn] at hz
              refine j_iconst (v := 1) dL_pumped_225 (by decide) ?_
              refine j_goto (tgt := 230) dL_pumped_226 (by decide) ?_
              refine j_icmp_ne (tgt := 243) dL_pumped_230 (by decide) (fun h9 => absurd h9 (fun q => q hz)) (fun _ => ?_)
              exact rest
          refine j_if_gt (tgt := 213) dL_pumped_206 (by decide) (fun hl => ?_) (fun hl => ?_)
          · refine j_iconst (v := 0) dL_pumped_213 (by decide) ?_
            refine fin 0 (if_neg (fun z => ?_)).symm
            have hl2 := (lg_cmp_gt _ _).mp hl
            exact absurd hl2 (Int64.not_lt.mpr (hq.mpr z))
          · refine j_iconst (v := 1) dL_pumped_209 (by decide) ?_
            refine j_goto (tgt := 214) dL_pumped_210 (by decide) ?_
            refine fin 1 (if_pos (hq.mp ?_)).symm
            exact Int64.not_lt.mp (fun z => hl ((lg_cmp_gt _ _).mpr z))
        have last : ∀ (μ : zM) (S' : Nat → Option rw), OK μ a S' 0 → Xj K 8 0 0 "DyeTankLaw" method_12_code 13 94 [zR (0, 0, 0), xR ap, zI v, zI (nI c), zI (nI p0), zI (nI p), zI (nI T), zI w, zI (aS a 5), zI (nI 3), zN, zN, zN] [] μ [(ap, 3, fp)] 0 0 := by
          intro μ S' hO
          refine j_iload dL_pumped_94 rfl ?_
          refine j_iconst (v := 3) dL_pumped_96 (by decide) ?_
          refine j_icmp_ge (tgt := 251) dL_pumped_97 (by decide) (fun _ => ?_) (fun h9 => absurd ((show (3 : Int32) ≤ nI 3 by decide)) h9)
          refine j_aload_n dL_pumped_251 rfl rfl ?_
          refine j_bipush (v := 11) dL_pumped_252 (by decide) ?_
          refine j_cVi (o_state hO 11) q_X3_state tw_196 dL_pumped_254 rfl rfl rfl (by omega) (Nat.le_of_ble_eq_true rfl) (by omega) (by omega) ?_ zv_0
          refine j_top (st_11) ?_
          refine j_iload dL_pumped_257 rfl ?_
          refine j_icmp_ne (tgt := 266) dL_pumped_259 (by decide) (fun h9 => absurd h9 (fun q => q rfl)) (fun _ => ?_)
          refine j_iconst (v := 1) dL_pumped_262 (by decide) ?_
          refine j_goto (tgt := 267) dL_pumped_263 (by decide) ?_
          refine j_bret hR dL_pumped_267 (Or.inr rfl) (⟨rfl, rfl, _, hO⟩) (by omega) (by omega)
        have third : ∀ (μ : zM) (S' : Nat → Option rw), OK μ a S' 0 → Xj K 8 0 0 "DyeTankLaw" method_12_code 13 94 [zR (0, 0, 0), xR ap, zI v, zI (nI c), zI (nI p0), zI (nI p), zI (nI T), zI w, zI (aS a 5), zI (nI 2), zN, zN, zN] [] μ [(ap, 3, fp)] 0 0 := by
          intro μ S' hO
          have cont : ∀ e, e ≤ lim → Xj K 8 0 0 "DyeTankLaw" method_12_code 13 164 [zR (0, 0, 0), xR ap, zI v, zI (nI c), zI (nI p0), zI (nI p), zI (nI T), zI w, zI (aS a 5), zI (nI 2), zN, zN, zN] [zI (nI e)] μ [(ap, 3, fp)] 0 0 := fun e he => run 2 μ S' e he hO (fun μ2 S2 h2 => by
            refine j_iinc dL_pumped_245 rfl (inc1 _) (by decide) rfl ?_
            refine j_goto (tgt := 94) dL_pumped_248 (by decide) ?_
            exact last μ2 S2 h2)
          refine j_iload dL_pumped_94 rfl ?_
          refine j_iconst (v := 3) dL_pumped_96 (by decide) ?_
          refine j_icmp_ge (tgt := 251) dL_pumped_97 (by decide) (fun h9 => absurd h9 ((show ¬ (3 : Int32) ≤ nI 2 by decide))) (fun _ => ?_)
          refine j_iload dL_pumped_100 rfl ?_
          refine j_if_ne (tgt := 121) dL_pumped_102 (by decide) (fun _ => ?_) (fun h9 => absurd h9 ((show ¬ nI 2 = 0 by decide)))
          refine j_iload dL_pumped_121 rfl ?_
          refine j_iconst (v := 1) dL_pumped_123 (by decide) ?_
          refine j_icmp_ne (tgt := 143) dL_pumped_124 (by decide) (fun _ => ?_) (fun h9 => absurd h9 ((show ¬ nI 2 = 1 by decide)))
          refine j_iload_n dL_pumped_143 rfl rfl ?_
          refine j_iconst (v := 5) dL_pumped_144 (by decide) ?_
          refine j_ishr dL_pumped_145 ?_
          refine j_iload dL_pumped_146 rfl ?_
          rcases hcase with ⟨w0, e⟩ | ⟨w0, e⟩
          · refine j_if_ge (tgt := 157) dL_pumped_148 (by decide) (fun _ => ?_) (fun h9 => absurd (w0) h9)
            subst e
            refine j_iload dL_pumped_157 rfl ?_
            refine j_iconst (v := 1) dL_pumped_159 (by decide) ?_
            refine j_iadd dL_pumped_160 ?_
            refine j_top ((nI_add lim 1)) ?_
            refine j_cSi (c_up _ (nI (lim + 1)) (nI_ne0 (by omega) (by omega))) q_L_up tw_189 dL_pumped_161 rfl rfl (by omega) (Nat.le_of_ble_eq_true rfl) (by omega) (by omega) ?_
            obtain ⟨y, hy, ey⟩ := up_ex (v >>> (5 &&& 31)) (m := lim + 1) (by omega) (by omega)
            refine j_top (ey) ?_
            exact cont y (by omega)
          · refine j_if_ge (tgt := 157) dL_pumped_148 (by decide) (fun h9 => absurd h9 (w0)) (fun _ => ?_)
            refine j_sipush (v := 201) dL_pumped_151 (by decide) ?_
            refine j_goto (tgt := 161) dL_pumped_154 (by decide) ?_
            refine j_cSi (c_up _ 201 (by decide)) q_L_up tw_189 dL_pumped_161 rfl rfl (by omega) (Nat.le_of_ble_eq_true rfl) (by omega) (by omega) ?_
            obtain ⟨y, hy, ey⟩ := up_ex (v >>> (5 &&& 31)) (m := 201) (by omega) (by omega)
            refine j_top (ey) ?_
            exact cont y (by omega)
        have second : ∀ (μ : zM) (S' : Nat → Option rw), OK μ a S' 0 → Xj K 8 0 0 "DyeTankLaw" method_12_code 13 94 [zR (0, 0, 0), xR ap, zI v, zI (nI c), zI (nI p0), zI (nI p), zI (nI T), zI w, zI (aS a 5), zI (nI 1), zN, zN, zN] [] μ [(ap, 3, fp)] 0 0 := by
          intro μ S' hO
          have cont : ∀ e, e ≤ lim → Xj K 8 0 0 "DyeTankLaw" method_12_code 13 164 [zR (0, 0, 0), xR ap, zI v, zI (nI c), zI (nI p0), zI (nI p), zI (nI T), zI w, zI (aS a 5), zI (nI 1), zN, zN, zN] [zI (nI e)] μ [(ap, 3, fp)] 0 0 := fun e he => run 1 μ S' e he hO (fun μ2 S2 h2 => by
            refine j_iinc dL_pumped_245 rfl (inc1 _) (by decide) rfl ?_
            refine j_goto (tgt := 94) dL_pumped_248 (by decide) ?_
            exact third μ2 S2 h2)
          refine j_iload dL_pumped_94 rfl ?_
          refine j_iconst (v := 3) dL_pumped_96 (by decide) ?_
          refine j_icmp_ge (tgt := 251) dL_pumped_97 (by decide) (fun h9 => absurd h9 ((show ¬ (3 : Int32) ≤ nI 1 by decide))) (fun _ => ?_)
          refine j_iload dL_pumped_100 rfl ?_
          refine j_if_ne (tgt := 121) dL_pumped_102 (by decide) (fun _ => ?_) (fun h9 => absurd h9 ((show ¬ nI 1 = 0 by decide)))
          refine j_iload dL_pumped_121 rfl ?_
          refine j_iconst (v := 1) dL_pumped_123 (by decide) ?_
          refine j_icmp_ne (tgt := 143) dL_pumped_124 (by decide) (fun h9 => absurd h9 (fun q => q rfl)) (fun _ => ?_)
          refine j_iload dL_pumped_127 rfl ?_
          rcases hcase with ⟨w0, e⟩ | ⟨w0, e⟩
          · refine j_if_ge (tgt := 136) dL_pumped_129 (by decide) (fun _ => ?_) (fun h9 => absurd (w0) h9)
            subst e
            refine j_iload dL_pumped_136 rfl ?_
            refine j_iconst (v := 1) dL_pumped_138 (by decide) ?_
            refine j_isub dL_pumped_139 ?_
            by_cases hl0 : lim = 0
            · subst hl0
              refine j_goto (tgt := 164) dL_pumped_140 (by decide) ?_
              refine j_istore dL_pumped_164 (by decide) rfl ?_
              refine j_iload dL_pumped_166 rfl ?_
              refine j_if_ge (tgt := 174) dL_pumped_168 (by decide) (fun h9 => absurd h9 ((show ¬ 0 ≤ nI 0 - 1 by decide))) (fun _ => ?_)
              refine j_goto (tgt := 245) dL_pumped_171 (by decide) ?_
              refine j_less (ls' := [zR (0, 0, 0), xR ap, zI v, zI (nI c), zI (nI p0), zI (nI p), zI (nI T), zI (nI 0), zI (aS a 5), zI (nI 1), zN, zN, zN]) (by repeat' constructor) ?_
              refine j_iinc dL_pumped_245 rfl (inc1 _) (by decide) rfl ?_
              refine j_goto (tgt := 94) dL_pumped_248 (by decide) ?_
              exact third μ S' hO
            · refine j_top ((nI_s1 (show 1 ≤ lim by omega))) ?_
              refine j_goto (tgt := 164) dL_pumped_140 (by decide) ?_
              exact cont (lim - 1) (by omega)
          · refine j_if_ge (tgt := 136) dL_pumped_129 (by decide) (fun h9 => absurd h9 (w0)) (fun _ => ?_)
            refine j_iconst (v := 0) dL_pumped_132 (by decide) ?_
            refine j_goto (tgt := 164) dL_pumped_133 (by decide) ?_
            exact cont 0 (by omega)
        have hlast : Xj K 8 0 0 "DyeTankLaw" method_12_code 13 94 [zR (0, 0, 0), xR ap, zI v, zI (nI c), zI (nI p0), zI (nI p), zI (nI T), zI w, zI (aS a 5), zI (nI 0), zN, zN, zN] [] μ1 [(ap, 3, fp)] 0 0 := by
          have cont : ∀ e, e ≤ lim → Xj K 8 0 0 "DyeTankLaw" method_12_code 13 164 [zR (0, 0, 0), xR ap, zI v, zI (nI c), zI (nI p0), zI (nI p), zI (nI T), zI w, zI (aS a 5), zI (nI 0), zN, zN, zN] [zI (nI e)] μ1 [(ap, 3, fp)] 0 0 := fun e he => run 0 μ1 S e he h1 (fun μ2 S2 h2 => by
            refine j_iinc dL_pumped_245 rfl (inc1 _) (by decide) rfl ?_
            refine j_goto (tgt := 94) dL_pumped_248 (by decide) ?_
            exact second μ2 S2 h2)
          refine j_iload dL_pumped_94 rfl ?_
          refine j_iconst (v := 3) dL_pumped_96 (by decide) ?_
          refine j_icmp_ge (tgt := 251) dL_pumped_97 (by decide) (fun h9 => absurd h9 ((show ¬ (3 : Int32) ≤ nI 0 by decide))) (fun _ => ?_)
          refine j_iload dL_pumped_100 rfl ?_
          refine j_if_ne (tgt := 121) dL_pumped_102 (by decide) (fun h9 => absurd h9 (fun q => q rfl)) (fun _ => ?_)
          refine j_iload dL_pumped_105 rfl ?_
          rcases hcase with ⟨w0, e⟩ | ⟨w0, e⟩
          · refine j_if_ge (tgt := 116) dL_pumped_107 (by decide) (fun _ => ?_) (fun h9 => absurd (w0) h9)
            refine j_iload dL_pumped_116 rfl ?_
            refine j_goto (tgt := 164) dL_pumped_118 (by decide) ?_
            refine j_top (e) ?_
            exact cont lim (by omega)
          · refine j_if_ge (tgt := 116) dL_pumped_107 (by decide) (fun h9 => absurd h9 (w0)) (fun _ => ?_)
            refine j_sipush (v := 200) dL_pumped_110 (by decide) ?_
            refine j_goto (tgt := 164) dL_pumped_113 (by decide) ?_
            exact cont 200 (by omega)
        exact hlast
    · rcases hcs with q | q
      · refine j_iload dL_pumped_70 rfl ?_
        refine j_bipush (v := -5) dL_pumped_72 (by decide) ?_
        refine j_icmp_ne (tgt := 81) dL_pumped_74 (by decide) (fun h9 => absurd h9 (fun z => z q.2)) (fun _ => ?_)
        refine j_iconst (v := 1) dL_pumped_77 (by decide) ?_
        refine j_goto (tgt := 82) dL_pumped_78 (by decide) ?_
        refine j_bret hR dL_pumped_82 (Or.inr rfl) (⟨rfl, rfl, _, h1⟩) (by omega) (by omega)
      · exact absurd (hfc.symm.trans h0) q.1
  refine j_istore dL_pumped_21 (by decide) rfl ?_
  refine j_iload dL_pumped_23 rfl ?_
  refine j_sipush (v := 11000) dL_pumped_25 (by decide) ?_
  refine j_icmp_le (tgt := 37) dL_pumped_28 (by decide) (fun hp => ?_) (fun hp => ?_)
  · refine j_iload dL_pumped_37 rfl ?_
    exact join p0 (nle (b := 11000) hp)
  · refine j_sipush (v := 11000) dL_pumped_31 (by decide) ?_
    refine j_goto (tgt := 39) dL_pumped_34 (by decide) ?_
    exact join 11000 (by omega)
