/-! met() of the law -/
theorem near_sym {a : rw} {i j : Nat} {b : Int32} {x y : Nat} (hx : x < 3600) (hy : y < 3600) (ei : a (34 + 104 * i + 1) = nI x) (ej : a (34 + 104 * j + 1) = nI y) : nearB a i j b = nearB a j i b := by
  have hab : absI (nI x - nI y) = absI (nI y - nI x) := by
    have e1 : (nI x - nI y).toInt = x - y := by rw [Int32.toInt_sub, nI_toInt (by omega), nI_toInt (by omega), Int.bmod_eq_of_le (by omega) (by omega)]
    have e2 : (nI y - nI x).toInt = y - x := by rw [Int32.toInt_sub, nI_toInt (by omega), nI_toInt (by omega), Int.bmod_eq_of_le (by omega) (by omega)]
    unfold absI
    simp only [Int32.le_iff_toInt_le, e1, e2, Int32.toInt_zero]
    by_cases h : (x : Int) = y
    · rw [if_pos (by omega), if_pos (by omega)]
      exact i32_eq (by omega)
    · by_cases h2 : (0 : Int) ≤ x - y
      · rw [if_pos h2, if_neg (by omega)]
        grind
      · rw [if_neg h2, if_pos (by omega)]
        grind
  unfold nearB
  rw [ei, ej, ← far_eq hx hy, ← far_eq hy hx, hab]
  exact decide_eq_decide.mpr ⟨fun h => ⟨h.1.symm, h.2⟩, fun h => ⟨h.1.symm, h.2⟩⟩
theorem near_self {a : rw} {i : Nat} {b : Nat} (hb : b < 2 ^ 31) {x : Nat} (hx : x < 3600) (ei : a (34 + 104 * i + 1) = nI x) : nearB a i i (nI b) = true := by
  unfold nearB
  rw [ei, ← far_eq hx hx, decide_eq_true_iff]
  refine ⟨rfl, ?_⟩
  have e1 : nI x - nI x = 0 := by grind
  rw [e1, show (if 3600 - absI 0 < absI 0 then 3600 - absI 0 else absI 0) = 0 by decide]
  exact nI_pos' hb
theorem FST_zero {h : Nat → Bool} {M : Nat} {w : Int32} (hf : FST h M w) (h0 : h 0 = true) : w = 0 := by
  rcases hf with ⟨k, hk, ht, hl, ew⟩ | ⟨hl, ew⟩
  · cases k with
    | zero => exact ew
    | succ k => rw [hl 0 (by omega)] at h0; cases h0
  · rw [hl 0 (by omega)] at h0; cases h0
theorem FST_congr {h h' : Nat → Bool} {M : Nat} {w : Int32} (hf : FST h M w) (e : ∀ k, k ≤ M → h k = h' k) : FST h' M w := by
  rcases hf with ⟨k, hk, ht, hl, ew⟩ | ⟨hl, ew⟩
  · exact Or.inl ⟨k, hk, by rw [← e k hk]; exact ht, fun j hj => by rw [← e j (by omega)]; exact hl j hj, ew⟩
  · exact Or.inr ⟨fun j hj => by rw [← e j hj]; exact hl j hj, ew⟩
theorem it_near {a : rw} (h : Full a) {i j : Nat} (hi : i < rK a) (hj : j < rK a) (b : Int32) (k : Nat) : nearB (itF k a) i j b = nearB (itF k a) j i b := by
  obtain ⟨t, ht, h1, hI, hG, _⟩ := h
  have hGk := IG_it hG k
  obtain ⟨x, hx, ex⟩ := hGk i (by rw [it_K]; exact hi)
  obtain ⟨y, hy, ey⟩ := hGk j (by rw [it_K]; exact hj)
  exact near_sym hx hy ex ey
/-- the law's nearness -/
theorem near_law {x y b : Nat} (hx : x < 3600) (hy : y < 3600) (hb : b ≤ 1800) {d : Int32} (hd : d = absI (nI x - nI y)) : farI (nI x) (nI y) ≤ nI b ↔ (d ≤ nI b ∨ 3600 - d ≤ nI b) := by
  rw [← far_eq hx hy, ← hd]
  by_cases h : 3600 - d < d
  · rw [if_pos h]
    refine ⟨fun z => Or.inr z, fun z => ?_⟩
    rcases z with z | z
    · exact Int32.le_trans (Int32.le_of_lt h) z
    · exact z
  · rw [if_neg h]
    refine ⟨fun z => Or.inl z, fun z => ?_⟩
    rcases z with z | z
    · exact z
    · exact Int32.le_trans (Int32.not_lt.mp h) z
set_option maxRecDepth 100000 in
theorem k_met {μ : zM} {a : rw} {S : Nat → Option rw} {t : Nat} (h : OK μ a S 0) (hw : Lw a t) (ht : t ≤ 90000) (v : Int32) (E : xE) : xCs yL_met method_11_code 12 (some .boolean) 8 0 0 [zR (0, 0, 0), zI v] μ E (fun μ' E' => E' = E ∧ ∃ S', OK μ' a S' 0) := by
  refine xCt.of "DyeTankLaw" rfl (by decide +kernel) rfl (Nat.le_of_ble_eq_true rfl) (fun K hR => ?_)
  have hF := h.2.1
  have hIB := Full_IB hF
  have hk6 := hIB.2.2.2.2
  refine j_ls (ls' := [zR (0, 0, 0), zI v, zN, zN, zN, zN, zN, zN, zN, zN, zN, zN]) rfl ?_
  refine j_aload_n dL_met_0 rfl rfl ?_
  refine j_iconst (v := 2) dL_met_1 (by decide) ?_
  refine j_cVi (o_state h 2) q_X3_state tw_196 dL_met_2 rfl rfl rfl (by omega) (Nat.le_of_ble_eq_true rfl) (by omega) (by omega) ?_ zv_0
  refine j_top ((st_2.trans hIB.2.2.2.1)) ?_
  refine j_istore_n dL_met_5 rfl (by decide) rfl ?_
  refine j_iload_n dL_met_6 rfl rfl ?_
  refine j_if_ne (tgt := 28) dL_met_7 (by decide) (fun hk0 => ?_) (fun hk0 => ?_)
  · have hkp : 0 < rK a := Nat.pos_of_ne_zero (fun e => hk0 (by rw [e]; rfl))
    refine j_iload_n dL_met_28 rfl rfl ?_
    refine j_iload_n dL_met_29 rfl rfl ?_
    refine j_cSi (c_up _ (nI (rK a)) (nI_ne0 (by omega) (by omega))) q_L_up tw_189 dL_met_30 rfl rfl (by omega) (Nat.le_of_ble_eq_true rfl) (by omega) (by omega) ?_
    obtain ⟨i, hi, ei⟩ := up_ex v (m := rK a) (by omega) (by omega)
    refine j_top (ei) ?_
    refine j_istore_n dL_met_33 rfl (by decide) rfl ?_
    refine j_iload_n dL_met_34 rfl rfl ?_
    refine j_iconst (v := 3) dL_met_35 (by decide) ?_
    refine j_ishr dL_met_36 ?_
    refine j_iload_n dL_met_37 rfl rfl ?_
    refine j_cSi (c_up _ (nI (rK a)) (nI_ne0 (by omega) (by omega))) q_L_up tw_189 dL_met_38 rfl rfl (by omega) (Nat.le_of_ble_eq_true rfl) (by omega) (by omega) ?_
    obtain ⟨j, hj, ej⟩ := up_ex (v >>> (3 &&& 31)) (m := rK a) (by omega) (by omega)
    refine j_top (ej) ?_
    refine j_istore dL_met_41 (by decide) rfl ?_
    refine j_iload_n dL_met_43 rfl rfl ?_
    refine j_bipush (v := 6) dL_met_44 (by decide) ?_
    refine j_ishr dL_met_46 ?_
    refine j_sipush (v := 900) dL_met_47 (by decide) ?_
    refine j_cSi (c_up _ 900 (by decide)) q_L_up tw_189 dL_met_50 rfl rfl (by omega) (Nat.le_of_ble_eq_true rfl) (by omega) (by omega) ?_
    obtain ⟨b, hb, eb⟩ := up_ex (v >>> (6 &&& 31)) (m := 900) (by omega) (by omega)
    refine j_top (eb) ?_
    refine j_istore dL_met_53 (by decide) rfl ?_
    refine j_iconst (v := 1) dL_met_55 (by decide) ?_
    refine j_iload_n dL_met_56 rfl rfl ?_
    refine j_bipush (v := 9) dL_met_57 (by decide) ?_
    refine j_ishr dL_met_59 ?_
    refine j_bipush (v := 60) dL_met_60 (by decide) ?_
    refine j_cSi (c_up _ 60 (by decide)) q_L_up tw_189 dL_met_62 rfl rfl (by omega) (Nat.le_of_ble_eq_true rfl) (by omega) (by omega) ?_
    obtain ⟨m, hm, em⟩ := up_ex (v >>> (9 &&& 31)) (m := 60) (by omega) (by omega)
    refine j_top (em) ?_
    refine j_iadd dL_met_65 ?_
    refine j_top ((nI_add 1 m)) ?_
    obtain ⟨M, hM⟩ : ∃ M, M = 1 + m := ⟨_, rfl⟩
    rw [← hM]
    refine j_istore dL_met_66 (by decide) rfl ?_
    refine j_aload_n dL_met_68 rfl rfl ?_
    refine j_iload_n dL_met_69 rfl rfl ?_
    refine j_iload dL_met_70 rfl ?_
    refine j_iload dL_met_72 rfl ?_
    refine j_iload dL_met_74 rfl ?_
    refine j_cVs (g_meet h (b := b) (M := M) hi hj (by omega) (by omega)) q_X3_meet tw_478 dL_met_76 rfl rfl rfl (by omega) (Nat.le_of_ble_eq_true rfl) (by omega) (by omega) (fun μ1 w ⟨hf, h1⟩ => ?_) zv_0
    refine j_istore dL_met_79 (by decide) rfl ?_
    refine j_aload_n dL_met_81 rfl rfl ?_
    refine j_iload dL_met_82 rfl ?_
    refine j_iload_n dL_met_84 rfl rfl ?_
    refine j_iload dL_met_85 rfl ?_
    refine j_iload dL_met_87 rfl ?_
    refine j_cVs (g_meet h1 (b := b) (M := M) hj hi (by omega) (by omega)) q_X3_meet tw_478 dL_met_89 rfl rfl rfl (by omega) (Nat.le_of_ble_eq_true rfl) (by omega) (by omega) (fun μ2 w2 ⟨hf2, h2⟩ => ?_) zv_0
    have ew2 : w2 = w := FST_same hf2 (FST_congr hf (fun k _ => it_near hF hi hj _ k))
    subst ew2
    refine j_iload dL_met_92 rfl ?_
    refine j_icmp_ne (tgt := 108) dL_met_94 (by decide) (fun h9 => absurd h9 (fun q => q rfl)) (fun _ => ?_)
    have cont : Xj K 8 0 0 "DyeTankLaw" method_11_code 12 110 [zR (0, 0, 0), zI v, zI (nI (rK a)), zI (nI i), zI (nI j), zI (nI b), zI (nI M), zI w2, zN, zN, zN, zN] [] μ2 E 0 0 := by
      obtain ⟨lim, hlim, hcase, hiff⟩ := FST_use hf (by omega)
      refine j_aload_n dL_met_110 rfl rfl ?_
      refine j_iconst (v := 0) dL_met_111 (by decide) ?_
      refine j_cVs (g_save h2 (i := 0) (by omega)) q_X3_save tw_437 dL_met_112 rfl rfl rfl (by omega) (Nat.le_of_ble_eq_true rfl) (by omega) (by omega) (fun μ3 w3 ⟨ew, h3⟩ => ?_) zv_0
      refine j_istore dL_met_115 (by decide) rfl ?_
      refine j_iconst (v := 0) dL_met_117 (by decide) ?_
      refine j_istore dL_met_118 (by decide) rfl ?_
      subst ew
      have loop : ∀ (f k : Nat) (μ : zM), k ≤ lim + 1 → lim + 1 < k + f → OK μ (itF k a) (putS S 0 a) 0 → (∀ μ, OK μ (itF (lim + 1) a) (putS S 0 a) 0 → Xj K 8 0 0 "DyeTankLaw" method_11_code 12 240 [zR (0, 0, 0), zI v, zI (nI (rK a)), zI (nI i), zI (nI j), zI (nI b), zI (nI M), zI w2, zI (a 1), zN, zN, zN] [] μ E 0 0) → Xj K 8 0 0 "DyeTankLaw" method_11_code 12 120 [zR (0, 0, 0), zI v, zI (nI (rK a)), zI (nI i), zI (nI j), zI (nI b), zI (nI M), zI w2, zI (a 1), zI (nI k), zN, zN] [] μ E 0 0 := by
        intro f
        induction f with
        | zero => intro k μ h1 h2 h3 h4; exact absurd ‹_ < _ + 0› (by omega)
        | succ f ih =>
          intro k μ hk1 hk2 hb2 hend
          have hF2 := hb2.2.1
          have hwb := hw.it hF k (by omega) (by omega)
          have enx : itF (k + 1) a = tickF (itF k a) := rfl
          have ih2 := ih (k + 1)
          have hq := hiff k
          rw [enx] at ih2
          have ek : rK (itF k a) = rK a := it_K a k
          have hkend : k = lim + 1 → OK μ (itF (lim + 1) a) (putS S 0 a) 0 := fun e => by rw [← e]; exact hb2
          have hG : IG (itF k a) := by
            obtain ⟨_, _, _, _, hG, _⟩ := hF
            exact IG_it hG k
          generalize itF k a = c at hb2 hF2 hwb ek ih2 hq hkend hG
          have hi2 : i < rK c := by rw [ek]; exact hi
          have hj2 : j < rK c := by rw [ek]; exact hj
          have hk62 : rK c ≤ 6 := by rw [ek]; exact hk6
          obtain ⟨x, hx, ex⟩ := hG i hi2
          obtain ⟨y, hy, ey⟩ := hG j hj2
          have go : Xj K 8 0 0 "DyeTankLaw" method_11_code 12 134 [zR (0, 0, 0), zI v, zI (nI (rK a)), zI (nI i), zI (nI j), zI (nI b), zI (nI M), zI w2, zI (a 1), zI (nI k), zN, zN] [zI (nI lim), zI (nI k)] μ E 0 0 := by
            refine j_icmp_gt (tgt := 240) dL_met_134 (by decide) (fun hd => ?_) (fun hd => ?_)
            · have hd := nlt hd
              refine j_less (ls' := [zR (0, 0, 0), zI v, zI (nI (rK a)), zI (nI i), zI (nI j), zI (nI b), zI (nI M), zI w2, zI (a 1), zN, zN, zN]) (by repeat' constructor) ?_
              exact hend μ (hkend (by omega))
            · have hd := nnlt hd
              refine j_aload_n dL_met_137 rfl rfl ?_
              refine j_iload_n dL_met_138 rfl rfl ?_
              refine j_iconst (v := 1) dL_met_139 (by decide) ?_
              refine j_cVi (o_where hb2 _ _) q_X3_where tw_256 dL_met_140 rfl rfl rfl (by omega) (Nat.le_of_ble_eq_true rfl) (by omega) (by omega) ?_ zv_0
              refine j_top (((wh_1 hi2 hk62).trans ex)) ?_
              refine j_aload_n dL_met_143 rfl rfl ?_
              refine j_iload dL_met_144 rfl ?_
              refine j_iconst (v := 1) dL_met_146 (by decide) ?_
              refine j_cVi (o_where hb2 _ _) q_X3_where tw_256 dL_met_147 rfl rfl rfl (by omega) (Nat.le_of_ble_eq_true rfl) (by omega) (by omega) ?_ zv_0
              refine j_top (((wh_1 hj2 hk62).trans ey)) ?_
              have back : ∀ x z : Int32, Xj K 8 0 0 "DyeTankLaw" method_11_code 12 228 [zR (0, 0, 0), zI v, zI (nI (rK a)), zI (nI i), zI (nI j), zI (nI b), zI (nI M), zI w2, zI (a 1), zI (nI k), zI x, zI z] [] μ E 0 0 := by
                intro x z
                refine j_aload_n dL_met_228 rfl rfl ?_
                refine j_iconst (v := 1) dL_met_229 (by decide) ?_
                refine j_cVs (g_tick hb2 (M := 1) hwb.1 (by omega) (by omega)) q_X3_tick tw_268 dL_met_230 rfl rfl rfl (by omega) (Nat.le_of_ble_eq_true rfl) (by omega) (by omega) (fun μ4 w4 ⟨_, h4⟩ => ?_) zv_0
                refine j_pop dL_met_233 rfl ?_
                refine j_iinc dL_met_234 rfl (inc1 _) (by decide) rfl ?_
                refine j_goto (tgt := 120) dL_met_237 (by decide) ?_
                refine j_less (ls' := [zR (0, 0, 0), zI v, zI (nI (rK a)), zI (nI i), zI (nI j), zI (nI b), zI (nI M), zI w2, zI (a 1), zI (nI (k + 1)), zN, zN]) (by repeat' constructor) ?_
                exact ih2 μ4 (by omega) (by omega) h4 hend
              have hq2 := hq hd
              unfold nearB at hq2
              rw [decide_eq_true_iff, ex, ey, near_law hx hy (by omega) (d := absI (nI x - nI y)) rfl] at hq2
              generalize hdd : absI (nI x - nI y) = d at hq2
              have j207 : ∀ z : Int32, z = (if nI k = w2 then 1 else 0) → Xj K 8 0 0 "DyeTankLaw" method_11_code 12 207 [zR (0, 0, 0), zI v, zI (nI (rK a)), zI (nI i), zI (nI j), zI (nI b), zI (nI M), zI w2, zI (a 1), zI (nI k), zI d, zN] [zI z] μ E 0 0 := by
                intro z hz
                refine j_istore dL_met_207 (by decide) rfl ?_
                refine j_iload dL_met_209 rfl ?_
                refine j_iload dL_met_211 rfl ?_
                refine j_iload dL_met_213 rfl ?_
                refine j_icmp_ne (tgt := 222) dL_met_215 (by decide) (fun hkn => ?_) (fun hkn => ?_)
                · rw [if_neg hkn] at hz
                  refine j_iconst (v := 0) dL_met_222 (by decide) ?_
                  refine j_icmp_eq (tgt := 228) dL_met_223 (by decide) (fun _ => ?_) (fun h9 => absurd (hz) h9)
                  exact back d z
                · rw [if_pos hkn] at hz
                  refine j_iconst (v := 1) dL_met_218 (by decide) ?_
                  refine j_goto (tgt := 223) dL_met_219 (by decide) ?_
                  refine j_icmp_eq (tgt := 228) dL_met_223 (by decide) (fun _ => ?_) (fun h9 => absurd (hz) h9)
                  exact back d z
              have j166 : Xj K 8 0 0 "DyeTankLaw" method_11_code 12 166 [zR (0, 0, 0), zI v, zI (nI (rK a)), zI (nI i), zI (nI j), zI (nI b), zI (nI M), zI w2, zI (a 1), zI (nI k), zI (nI x - nI y), zN] [zI d] μ E 0 0 := by
                refine j_istore dL_met_166 (by decide) rfl ?_
                refine j_aload_n dL_met_168 rfl rfl ?_
                refine j_iload_n dL_met_169 rfl rfl ?_
                refine j_iconst (v := 2) dL_met_170 (by decide) ?_
                refine j_cVi (o_where hb2 _ _) q_X3_where tw_256 dL_met_171 rfl rfl rfl (by omega) (Nat.le_of_ble_eq_true rfl) (by omega) (by omega) ?_ zv_0
                refine j_top ((wh_2 hi2 hk62)) ?_
                refine j_aload_n dL_met_174 rfl rfl ?_
                refine j_iload dL_met_175 rfl ?_
                refine j_iconst (v := 2) dL_met_177 (by decide) ?_
                refine j_cVi (o_where hb2 _ _) q_X3_where tw_256 dL_met_178 rfl rfl rfl (by omega) (Nat.le_of_ble_eq_true rfl) (by omega) (by omega) ?_ zv_0
                refine j_top ((wh_2 hj2 hk62)) ?_
                refine j_icmp_ne (tgt := 206) dL_met_181 (by decide) (fun c1 => ?_) (fun c1 => ?_)
                · refine j_iconst (v := 0) dL_met_206 (by decide) ?_
                  exact j207 0 (if_neg (fun z => c1 (hq2.mpr z).1)).symm
                · refine j_iload dL_met_184 rfl ?_
                  refine j_iload dL_met_186 rfl ?_
                  refine j_icmp_le (tgt := 202) dL_met_188 (by decide) (fun c2 => ?_) (fun c2 => ?_)
                  · refine j_iconst (v := 1) dL_met_202 (by decide) ?_
                    refine j_goto (tgt := 207) dL_met_203 (by decide) ?_
                    exact j207 1 (if_pos (hq2.mp ⟨c1, Or.inl c2⟩)).symm
                  · refine j_sipush (v := 3600) dL_met_191 (by decide) ?_
                    refine j_iload dL_met_194 rfl ?_
                    refine j_isub dL_met_196 ?_
                    refine j_iload dL_met_197 rfl ?_
                    refine j_icmp_gt (tgt := 206) dL_met_199 (by decide) (fun c3 => ?_) (fun c3 => ?_)
                    · refine j_iconst (v := 0) dL_met_206 (by decide) ?_
                      refine j207 0 (if_neg (fun z => ?_)).symm
                      rcases (hq2.mpr z).2 with q | q
                      · exact c2 q
                      · exact absurd c3 (Int32.not_lt.mpr q)
                    · refine j_iconst (v := 1) dL_met_202 (by decide) ?_
                      refine j_goto (tgt := 207) dL_met_203 (by decide) ?_
                      exact j207 1 (if_pos (hq2.mp ⟨c1, Or.inr (Int32.not_lt.mp c3)⟩)).symm
              refine j_isub dL_met_150 ?_
              refine j_istore dL_met_151 (by decide) rfl ?_
              refine j_iload dL_met_153 rfl ?_
              refine j_if_ge (tgt := 164) dL_met_155 (by decide) (fun c0 => ?_) (fun c0 => ?_)
              · refine j_iload dL_met_164 rfl ?_
                refine j_top ((show nI x - nI y = d by rw [← hdd, absI, if_pos c0])) ?_
                exact j166
              · refine j_iload dL_met_158 rfl ?_
                refine j_ineg dL_met_160 ?_
                refine j_goto (tgt := 166) dL_met_161 (by decide) ?_
                refine j_top ((show -(nI x - nI y) = d by rw [← hdd, absI, if_neg c0]; grind)) ?_
                exact j166
          refine j_iload dL_met_120 rfl ?_
          refine j_iload dL_met_122 rfl ?_
          rcases hcase with ⟨h0, e⟩ | ⟨h0, e⟩
          · refine j_if_ge (tgt := 132) dL_met_124 (by decide) (fun _ => ?_) (fun h9 => absurd (h0) h9)
            refine j_iload dL_met_132 rfl ?_
            refine j_top (e) ?_
            exact go
          · refine j_if_ge (tgt := 132) dL_met_124 (by decide) (fun h9 => absurd h9 (h0)) (fun _ => ?_)
            refine j_iload dL_met_127 rfl ?_
            refine j_goto (tgt := 134) dL_met_129 (by decide) ?_
            refine j_top ((congrArg nI e.symm)) ?_
            exact go
      refine loop (lim + 2) 0 μ3 (by omega) (by omega) h3 (fun μ4 h4 => ?_)
      refine j_aload_n dL_met_240 rfl rfl ?_
      refine j_iconst (v := 0) dL_met_241 (by decide) ?_
      refine j_cVs (g_restore h4 (i := 0) (by omega) (putS_eq S 0 a)) q_X3_restore tw_450 dL_met_242 rfl rfl rfl (by omega) (Nat.le_of_ble_eq_true rfl) (by omega) (by omega) (fun μ5 w5 ⟨ew5, h5⟩ => ?_) zv_0
      subst ew5
      refine j_iload dL_met_245 rfl ?_
      refine j_icmp_ne (tgt := 254) dL_met_247 (by decide) (fun h9 => absurd h9 (fun q => q rfl)) (fun _ => ?_)
      refine j_iconst (v := 1) dL_met_250 (by decide) ?_
      refine j_goto (tgt := 255) dL_met_251 (by decide) ?_
      refine j_bret hR dL_met_255 (Or.inr rfl) (⟨rfl, rfl, _, h5⟩) (by omega) (by omega)
    refine j_iload_n dL_met_97 rfl rfl ?_
    refine j_iload dL_met_98 rfl ?_
    refine j_icmp_ne (tgt := 110) dL_met_100 (by decide) (fun hij => ?_) (fun hij => ?_)
    · exact cont
    · refine j_iload dL_met_103 rfl ?_
      have eij := nI_inj (by omega) (by omega) hij
      subst eij
      obtain ⟨x, hx, ex⟩ : ∃ x, x < 3600 ∧ a (34 + 104 * i + 1) = nI x := by
        obtain ⟨_, _, _, _, hG, _⟩ := hF
        exact hG i hi
      refine j_if_eq (tgt := 110) dL_met_105 (by decide) (fun _ => ?_) (fun h9 => absurd ((FST_zero hf (near_self (by omega) hx ex))) h9)
      exact cont
  · have hkz : rK a = 0 := by
      have e := congrArg Int32.toInt hk0
      rw [nI_toInt (by omega), Int32.toInt_zero] at e
      omega
    refine j_aload_n dL_met_10 rfl rfl ?_
    refine j_iconst (v := 0) dL_met_11 (by decide) ?_
    refine j_iconst (v := 0) dL_met_12 (by decide) ?_
    refine j_iconst (v := 0) dL_met_13 (by decide) ?_
    refine j_iconst (v := 1) dL_met_14 (by decide) ?_
    refine j_cVi (f_meet h (fun q => by have e := q.1.2; rw [hkz] at e; exact absurd e (by decide))) q_X3_meet tw_478 dL_met_15 rfl rfl rfl (by omega) (Nat.le_of_ble_eq_true rfl) (by omega) (by omega) ?_ zv_0
    refine j_iconst (v := -1) dL_met_18 (by decide) ?_
    refine j_icmp_ne (tgt := 26) dL_met_19 (by decide) (fun h9 => absurd h9 (fun q => q rfl)) (fun _ => ?_)
    refine j_iconst (v := 1) dL_met_22 (by decide) ?_
    refine j_goto (tgt := 27) dL_met_23 (by decide) ?_
    refine j_bret hR dL_met_27 (Or.inr rfl) (⟨rfl, rfl, _, h⟩) (by omega) (by omega)
