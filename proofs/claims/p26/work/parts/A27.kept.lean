/-! what is restored is as it was: kept() of the law -/
set_option maxRecDepth 100000 in
theorem k_kept {μ : zM} {a : rw} {S : Nat → Option rw} {t ap : Nat} {fp : Nat → Int32} (h : OK μ a S 0) (hw : Lw a t) (ht : t ≤ 80000) (hf : PI fp a) (v : Int32) : xCs yL_kept method_14_code 9 (some .boolean) 8 0 0 [zR (0, 0, 0), xR ap, zI v] μ [(ap, 3, fp)] (fun μ' E' => True) := by
  refine xCt.of "DyeTankLaw" rfl (by decide +kernel) rfl (Nat.le_of_ble_eq_true rfl) (fun K hR => ?_)
  have hF := h.2.1
  refine j_ls (ls' := [zR (0, 0, 0), xR ap, zI v, zN, zN, zN, zN, zN, zN]) rfl ?_
  refine j_aload_n dL_kept_0 rfl rfl ?_
  refine j_iconst (v := 1) dL_kept_1 (by decide) ?_
  refine j_cVs (g_save h (i := 1) (by omega)) q_X3_save tw_437 dL_kept_2 rfl rfl rfl (by omega) (Nat.le_of_ble_eq_true rfl) (by omega) (by omega) (fun μ1 w1 ⟨ew, h1⟩ => ?_) zv_0
  refine j_istore_n dL_kept_5 rfl (by decide) rfl ?_
  refine j_aload_n dL_kept_6 rfl rfl ?_
  refine j_iconst (v := 3) dL_kept_7 (by decide) ?_
  refine j_cVi (o_state h1 3) q_X3_state tw_196 dL_kept_8 rfl rfl rfl (by omega) (Nat.le_of_ble_eq_true rfl) (by omega) (by omega) ?_ zv_0
  refine j_istore dL_kept_11 (by decide) rfl ?_
  refine j_aload_n dL_kept_13 rfl rfl ?_
  refine j_iconst (v := 1) dL_kept_14 (by decide) ?_
  refine j_iconst (v := 2) dL_kept_15 (by decide) ?_
  refine j_cVi (o_ring h1 1 2) q_X3_ring tw_228 dL_kept_16 rfl rfl rfl (by omega) (Nat.le_of_ble_eq_true rfl) (by omega) (by omega) ?_ zv_0
  refine j_istore dL_kept_19 (by decide) rfl ?_
  refine j_aload_n dL_kept_21 rfl rfl ?_
  refine j_iconst (v := 2) dL_kept_22 (by decide) ?_
  refine j_cVi (o_state h1 2) q_X3_state tw_196 dL_kept_23 rfl rfl rfl (by omega) (Nat.le_of_ble_eq_true rfl) (by omega) (by omega) ?_ zv_0
  refine j_istore dL_kept_26 (by decide) rfl ?_
  refine j_aload_n dL_kept_28 rfl rfl ?_
  refine j_iconst (v := 1) dL_kept_29 (by decide) ?_
  refine j_iconst (v := 5) dL_kept_30 (by decide) ?_
  refine j_cVl (o_colour h1 1 5) q_X3_colour tw_400 dL_kept_31 rfl rfl rfl (by omega) (Nat.le_of_ble_eq_true rfl) (by omega) (by omega) ?_ zv_0
  subst ew
  refine j_lstore dL_kept_34 (by decide) rfl ?_
  refine j_aload_n dL_kept_36 rfl rfl ?_
  refine j_iconst (v := 1) dL_kept_37 (by decide) ?_
  refine j_iload_n dL_kept_38 rfl rfl ?_
  refine j_bipush (v := 40) dL_kept_39 (by decide) ?_
  refine j_cSi (c_up _ 40 (by decide)) q_L_up tw_189 dL_kept_41 rfl rfl (by omega) (Nat.le_of_ble_eq_true rfl) (by omega) (by omega) ?_
  obtain ⟨T, hT, eT⟩ := up_ex v (m := 40) (by omega) (by omega)
  refine j_top (eT) ?_
  refine j_iadd dL_kept_44 ?_
  refine j_top ((nI_add 1 T)) ?_
  refine j_cVs (g_tick h1 (M := 1 + T) hw.1 (by omega) (by omega)) q_X3_tick tw_268 dL_kept_45 rfl rfl rfl (by omega) (Nat.le_of_ble_eq_true rfl) (by omega) (by omega) (fun μ2 w2 ⟨_, h2⟩ => ?_) zv_0
  refine j_pop dL_kept_48 rfl ?_
  refine j_aload_n dL_kept_49 rfl rfl ?_
  refine j_iconst (v := 2) dL_kept_50 (by decide) ?_
  refine j_iload_n dL_kept_51 rfl rfl ?_
  refine j_bipush (v := 6) dL_kept_52 (by decide) ?_
  refine j_ishr dL_kept_54 ?_
  refine j_bipush (v := 11) dL_kept_55 (by decide) ?_
  refine j_cSi (c_up _ 11 (by decide)) q_L_up tw_189 dL_kept_57 rfl rfl (by omega) (Nat.le_of_ble_eq_true rfl) (by omega) (by omega) ?_
  obtain ⟨n, hn, en⟩ := up_ex (v >>> (6 &&& 31)) (m := 11) (by omega) (by omega)
  refine j_top (en) ?_
  refine j_iadd dL_kept_60 ?_
  refine j_top ((nI_add 2 n)) ?_
  refine j_cVs (g_setUp h2 (n := 2 + n) (by omega)) q_X3_setUp tw_177 dL_kept_61 rfl rfl rfl (by omega) (Nat.le_of_ble_eq_true rfl) (by omega) (by omega) (fun μ3 w3 ⟨_, h3⟩ => ?_) zv_0
  refine j_pop dL_kept_64 rfl ?_
  refine j_aload_n dL_kept_65 rfl rfl ?_
  refine j_iconst (v := 0) dL_kept_66 (by decide) ?_
  refine j_cVi (o_state h3 0) q_X3_state tw_196 dL_kept_67 rfl rfl rfl (by omega) (Nat.le_of_ble_eq_true rfl) (by omega) (by omega) ?_ zv_0
  refine j_top ((state0.trans (beg_0 _ (Or.inr rfl)))) ?_
  refine j_if_ne (tgt := 100) dL_kept_70 (by decide) (fun h9 => absurd h9 (fun q => q rfl)) (fun _ => ?_)
  refine j_aload_n dL_kept_73 rfl rfl ?_
  refine j_iconst (v := 2) dL_kept_74 (by decide) ?_
  refine j_cVi (o_state h3 2) q_X3_state tw_196 dL_kept_75 rfl rfl rfl (by omega) (Nat.le_of_ble_eq_true rfl) (by omega) (by omega) ?_ zv_0
  refine j_top ((st_2.trans (beg_0 _ (Or.inl (by omega))))) ?_
  refine j_if_ne (tgt := 100) dL_kept_78 (by decide) (fun h9 => absurd h9 (fun q => q rfl)) (fun _ => ?_)
  refine j_aload_n dL_kept_81 rfl rfl ?_
  refine j_iconst (v := 3) dL_kept_82 (by decide) ?_
  refine j_cVi (o_state h3 3) q_X3_state tw_196 dL_kept_83 rfl rfl rfl (by omega) (Nat.le_of_ble_eq_true rfl) (by omega) (by omega) ?_ zv_0
  refine j_top ((st_3.trans (sm_zero _ (fun k _ => beg_0 _ (Or.inl (by omega)))))) ?_
  refine j_if_ne (tgt := 100) dL_kept_86 (by decide) (fun h9 => absurd h9 (fun q => q rfl)) (fun _ => ?_)
  refine j_aload_n dL_kept_89 rfl rfl ?_
  refine j_iconst (v := 1) dL_kept_90 (by decide) ?_
  refine j_iconst (v := 0) dL_kept_91 (by decide) ?_
  refine j_cVl (o_colour h3 1 0) q_X3_colour tw_400 dL_kept_92 rfl rfl rfl (by omega) (Nat.le_of_ble_eq_true rfl) (by omega) (by omega) ?_ zv_0
  refine j_topl (((cw_0 (c := 1) (by omega)).trans (show (allA (aD (beg (nI (2 + n))) 1) (rN (beg (nI (2 + n))))).toInt64 = 0 by rw [allA_0 (f := aD (beg (nI (2 + n))) 1) (fun i => beg_0 _ (Or.inl (by omega)))]; decide))) ?_
  refine j_lconst (v := 0) dL_kept_95 (by decide) ?_
  refine j_lcmp dL_kept_96 ?_
  refine j_if_eq (tgt := 102) dL_kept_97 (by decide) (fun _ => ?_) (fun h9 => absurd (((lg_cmp_eq _ _).mpr rfl)) h9)
  refine j_aload_n dL_kept_102 rfl rfl ?_
  refine j_iconst (v := 1) dL_kept_103 (by decide) ?_
  refine j_cVs (g_restore h3 (i := 1) (by omega) (putS_eq S 1 a)) q_X3_restore tw_450 dL_kept_104 rfl rfl rfl (by omega) (Nat.le_of_ble_eq_true rfl) (by omega) (by omega) (fun μ4 w4 ⟨ew4, h4⟩ => ?_) zv_0
  subst ew4
  refine j_iload_n dL_kept_107 rfl rfl ?_
  refine j_icmp_ne (tgt := 166) dL_kept_108 (by decide) (fun h9 => absurd h9 (fun q => q rfl)) (fun _ => ?_)
  refine j_aload_n dL_kept_111 rfl rfl ?_
  refine j_iconst (v := 3) dL_kept_112 (by decide) ?_
  refine j_cVi (o_state h4 3) q_X3_state tw_196 dL_kept_113 rfl rfl rfl (by omega) (Nat.le_of_ble_eq_true rfl) (by omega) (by omega) ?_ zv_0
  refine j_iload dL_kept_116 rfl ?_
  refine j_icmp_ne (tgt := 166) dL_kept_118 (by decide) (fun h9 => absurd h9 (fun q => q rfl)) (fun _ => ?_)
  refine j_aload_n dL_kept_121 rfl rfl ?_
  refine j_iconst (v := 1) dL_kept_122 (by decide) ?_
  refine j_iconst (v := 2) dL_kept_123 (by decide) ?_
  refine j_cVi (o_ring h4 1 2) q_X3_ring tw_228 dL_kept_124 rfl rfl rfl (by omega) (Nat.le_of_ble_eq_true rfl) (by omega) (by omega) ?_ zv_0
  refine j_iload dL_kept_127 rfl ?_
  refine j_icmp_ne (tgt := 166) dL_kept_129 (by decide) (fun h9 => absurd h9 (fun q => q rfl)) (fun _ => ?_)
  refine j_aload_n dL_kept_132 rfl rfl ?_
  refine j_iconst (v := 2) dL_kept_133 (by decide) ?_
  refine j_cVi (o_state h4 2) q_X3_state tw_196 dL_kept_134 rfl rfl rfl (by omega) (Nat.le_of_ble_eq_true rfl) (by omega) (by omega) ?_ zv_0
  refine j_iload dL_kept_137 rfl ?_
  refine j_icmp_ne (tgt := 166) dL_kept_139 (by decide) (fun h9 => absurd h9 (fun q => q rfl)) (fun _ => ?_)
  refine j_aload_n dL_kept_142 rfl rfl ?_
  refine j_iconst (v := 1) dL_kept_143 (by decide) ?_
  refine j_iconst (v := 5) dL_kept_144 (by decide) ?_
  refine j_cVl (o_colour h4 1 5) q_X3_colour tw_400 dL_kept_145 rfl rfl rfl (by omega) (Nat.le_of_ble_eq_true rfl) (by omega) (by omega) ?_ zv_0
  refine j_lload dL_kept_148 rfl ?_
  refine j_lcmp dL_kept_150 ?_
  refine j_if_ne (tgt := 166) dL_kept_151 (by decide) (fun h9 => absurd h9 (fun q => q ((lg_cmp_eq _ _).mpr rfl))) (fun _ => ?_)
  refine j_aload_n dL_kept_154 rfl rfl ?_
  refine j_aload_n dL_kept_155 rfl rfl ?_
  refine j_cSs (k_whole h4 hf) q_L_whole tw_397 dL_kept_156 rfl rfl (by omega) (Nat.le_of_ble_eq_true rfl) (by omega) (by omega) (fun μ5 E5 ⟨e5, m5⟩ => ?_)
  refine j_if_eq (tgt := 166) dL_kept_159 (by decide) (fun h9 => absurd h9 ((show ¬ (1 : Int32) = 0 by decide))) (fun _ => ?_)
  refine j_iconst (v := 1) dL_kept_162 (by decide) ?_
  refine j_goto (tgt := 167) dL_kept_163 (by decide) ?_
  refine j_bret hR dL_kept_167 (Or.inr rfl) (⟨rfl, trivial⟩) (by omega) (by omega)
