/-! the same by a text and by calls: told() of the law -/
theorem TX_chr {μ : zM} {f : Nat → Int32} {l : Nat} (h : TX μ f l) : chr (μ (4, 0, 0)) l = chr f l := by
  funext i
  unfold chr
  split
  · next hi => exact h i hi
  · rfl
theorem TX_0 (μ : zM) (f : Nat → Int32) : TX μ f 0 := fun i hi => by omega
theorem ch_in {k : Nat} (h : 33 ≤ k ∧ k ≤ 126) : (33 : Int32) ≤ nI k ∧ nI k ≤ 126 := n_in 33 126 h
set_option maxRecDepth 100000 in
theorem k_told {μ : zM} {a : rw} {S : Nat → Option rw} {t : Nat} {fp : Nat → Int32} (h : OK μ a S 0) (hw : Lw a t) (ht : t ≤ 80000) (hf : PI fp a) (hfB : (fp 2).toInt ≤ 8000000) (v : Int32) (E : xE) : xCs yL_told method_13_code 13 (some .boolean) 9 0 0 [zR (0, 0, 0), zI v] μ E (fun μ' E' => E' = E ∧ ∃ S', OK μ' a S' 0) := by
  refine xCt.of "DyeTankLaw" rfl (by decide +kernel) rfl (Nat.le_of_ble_eq_true rfl) (fun K hR => ?_)
  have hF := h.2.1
  obtain ⟨hn2, hn12⟩ := Full_n hF
  have hIB := Full_IB hF
  refine j_ls (ls' := [zR (0, 0, 0), zI v, zN, zN, zN, zN, zN, zN, zN, zN, zN, zN, zN]) rfl ?_
  refine j_iconst (v := 1) dL_told_0 (by decide) ?_
  refine j_iload_n dL_told_1 rfl rfl ?_
  refine j_bipush (v := 9) dL_told_2 (by decide) ?_
  refine j_cSi (c_up _ 9 (by decide)) q_L_up tw_189 dL_told_4 rfl rfl (by omega) (Nat.le_of_ble_eq_true rfl) (by omega) (by omega) ?_
  obtain ⟨T0, hT0, eT0⟩ := up_ex v (m := 9) (by omega) (by omega)
  refine j_top (eT0) ?_
  refine j_iadd dL_told_7 ?_
  refine j_top ((nI_add 1 T0)) ?_
  refine j_istore_n dL_told_8 rfl (by decide) rfl ?_
  refine j_iload_n dL_told_9 rfl rfl ?_
  refine j_iconst (v := 4) dL_told_10 (by decide) ?_
  refine j_ishr dL_told_11 ?_
  refine j_bipush (v := 10) dL_told_12 (by decide) ?_
  refine j_cSi (c_up _ 10 (by decide)) q_L_up tw_189 dL_told_14 rfl rfl (by omega) (Nat.le_of_ble_eq_true rfl) (by omega) (by omega) ?_
  obtain ⟨R, hR, eR⟩ := up_ex (v >>> (4 &&& 31)) (m := 10) (by omega) (by omega)
  refine j_top (eR) ?_
  refine j_istore_n dL_told_17 rfl (by decide) rfl ?_
  refine j_iload_n dL_told_18 rfl rfl ?_
  refine j_bipush (v := 8) dL_told_19 (by decide) ?_
  refine j_ishr dL_told_21 ?_
  refine j_bipush (v := 10) dL_told_22 (by decide) ?_
  refine j_cSi (c_up _ 10 (by decide)) q_L_up tw_189 dL_told_24 rfl rfl (by omega) (Nat.le_of_ble_eq_true rfl) (by omega) (by omega) ?_
  obtain ⟨V, hV, eV⟩ := up_ex (v >>> (8 &&& 31)) (m := 10) (by omega) (by omega)
  refine j_top (eV) ?_
  have htx := tdB_all T0 hT0 R hR V hV
  obtain ⟨T, hT⟩ : ∃ T, T = 1 + T0 := ⟨_, rfl⟩
  rw [← hT] at htx ⊢
  have hT9 : 1 ≤ T ∧ T ≤ 9 := by omega
  refine j_istore dL_told_27 (by decide) rfl ?_
  refine j_aload_n dL_told_29 rfl rfl ?_
  refine j_iconst (v := 1) dL_told_30 (by decide) ?_
  refine j_cVs (g_save h (i := 1) (by omega)) q_X3_save tw_437 dL_told_31 rfl rfl rfl (by omega) (Nat.le_of_ble_eq_true rfl) (by omega) (by omega) (fun μ1 w1 ⟨_, h1⟩ => ?_) zv_0
  refine j_pop dL_told_34 rfl ?_
  refine j_iconst (v := 1) dL_told_35 (by decide) ?_
  refine j_istore dL_told_36 (by decide) rfl ?_
  refine j_aload_n dL_told_38 rfl rfl ?_
  refine j_iload_n dL_told_39 rfl rfl ?_
  refine j_cVs (g_tick h1 (M := T) hw.1 (by omega) (by omega)) q_X3_tick tw_268 dL_told_40 rfl rfl rfl (by omega) (Nat.le_of_ble_eq_true rfl) (by omega) (by omega) (fun μ2 w2 ⟨_, h2⟩ => ?_) zv_0
  refine j_pop dL_told_43 rfl ?_
  refine j_aload_n dL_told_44 rfl rfl ?_
  refine j_iload_n dL_told_45 rfl rfl ?_
  refine j_iload dL_told_46 rfl ?_
  refine j_ineg dL_told_48 ?_
  -- the text behind the calls: any row that the calls led to
  have text : ∀ (μ3 : zM) (c : rw) (D : Nat) (x6 : Int32), OK μ3 c (putS S 1 a) 0 → runA [[116, nI T], [118, nI R, -nI V], [100, 2, 1, nI R, 7, 5]] a = (D, c) → Xj K 9 0 0 "DyeTankLaw" method_13_code 13 107 [zR (0, 0, 0), zI v, zI (nI T), zI (nI R), zI (nI V), zI (nI D), zI x6, zN, zN, zN, zN, zN, zN] [] μ3 E 0 0 := by
    intro μ3 c D x6 h3 hrun
    have htd : fauP (chr (tdF T R V) 17) 17 = -6 ∧ (txtP (chr (tdF T R V) 17) 21 0).2.2 = [[116, nI T], [118, nI R, -nI V], [100, 2, 1, nI R, 7, 5]] := by
      unfold tdB at htx
      rw [Bool.and_eq_true, decide_eq_true_iff, decide_eq_true_iff] at htx
      exact htx
    refine j_aload_n dL_told_107 rfl rfl ?_
    refine j_iconst (v := 3) dL_told_108 (by decide) ?_
    refine j_cVi (o_state h3 3) q_X3_state tw_196 dL_told_109 rfl rfl rfl (by omega) (Nat.le_of_ble_eq_true rfl) (by omega) (by omega) ?_ zv_0
    refine j_istore dL_told_112 (by decide) rfl ?_
    refine j_aload_n dL_told_114 rfl rfl ?_
    refine j_iconst (v := 2) dL_told_115 (by decide) ?_
    refine j_iconst (v := 0) dL_told_116 (by decide) ?_
    refine j_cVl (o_colour h3 2 0) q_X3_colour tw_400 dL_told_117 rfl rfl rfl (by omega) (Nat.le_of_ble_eq_true rfl) (by omega) (by omega) ?_ zv_0
    refine j_lstore dL_told_120 (by decide) rfl ?_
    refine j_aload_n dL_told_122 rfl rfl ?_
    refine j_iconst (v := 2) dL_told_123 (by decide) ?_
    refine j_iconst (v := 4) dL_told_124 (by decide) ?_
    refine j_cVl (o_colour h3 2 4) q_X3_colour tw_400 dL_told_125 rfl rfl rfl (by omega) (Nat.le_of_ble_eq_true rfl) (by omega) (by omega) ?_ zv_0
    refine j_lstore dL_told_128 (by decide) rfl ?_
    refine j_aload_n dL_told_130 rfl rfl ?_
    refine j_iconst (v := 1) dL_told_131 (by decide) ?_
    refine j_cVs (g_restore h3 (i := 1) (by omega) (putS_eq S 1 a)) q_X3_restore tw_450 dL_told_132 rfl rfl rfl (by omega) (Nat.le_of_ble_eq_true rfl) (by omega) (by omega) (fun μ4 w4 ⟨_, h4⟩ => ?_) zv_0
    refine j_pop dL_told_135 rfl ?_
    refine j_aload_n dL_told_136 rfl rfl ?_
    refine j_cVs (o_wipe h4) q_X3_wipe tw_503 dL_told_137 rfl rfl rfl (by omega) (Nat.le_of_ble_eq_true rfl) (by omega) (by omega) (fun μ5 w5 ⟨_, h5⟩ => ?_) zv_0
    refine j_pop dL_told_140 rfl ?_
    sorry
  sorry
