/-! the reference's calls of markers -/
theorem m_marker (μ : zM) (n mk : Nat) (hn : μ (21, 0, 0) 0 = nI n) (hn2 : 2 ≤ n) (hn12 : n ≤ 12) (hk : μ (21, 0, 0) 33 = nI mk) (hk6 : mk ≤ 6) (p g : Int32) : zCs yX4_marker prog_6_method_41_code 4 (some .int) 2 [zR (20, 0, 0), zI p, zI g] μ (fun μ' w => (¬ ((0 ≤ p ∧ p ≤ 1000 * nI n - 1) ∧ (0 ≤ g ∧ g ≤ 3599)) ∧ w = -2 ∧ μ' = μ) ∨ (((0 ≤ p ∧ p ≤ 1000 * nI n - 1) ∧ (0 ≤ g ∧ g ≤ 3599)) ∧ mk = 6 ∧ w = -4 ∧ μ' = μ) ∨ (((0 ≤ p ∧ p ≤ 1000 * nI n - 1) ∧ (0 ≤ g ∧ g ≤ 3599)) ∧ mk < 6 ∧ w = nI mk ∧ μ' = st μ (21, 0, 0) (upd (upd (upd (upd (upd (μ (21, 0, 0)) (34 + 104 * mk) p) (34 + 104 * mk + 1) g) (34 + 104 * mk + 2) 0) (34 + 104 * mk + 3) 0) 33 (nI (mk + 1))))) := by
  refine zCt.of "DyeTankModel" rfl (by decide +kernel) rfl (Nat.le_of_ble_eq_true rfl) (fun K hR => ?_)
  have v20 := zv_20
  have v21 := zv_21
  have v22 := zv_22
  have v23 := zv_23
  have v24 := zv_24
  have v25 := zv_25
  have v26 := zv_26
  have v27 := zv_27
  have v28 := zv_28
  refine z_ls (ls' := [zR (20, 0, 0), zI p, zI g, zN]) rfl ?_
  refine z_iload_n dX4_marker_0 rfl rfl ?_
  refine z_iconst (v := 0) dX4_marker_1 (by decide) ?_
  refine z_sipush (v := 1000) dX4_marker_2 (by decide) ?_
  refine z_aload_n dX4_marker_5 rfl rfl ?_
  refine zg_X4_at dX4_marker_6 tw_552 ?_
  refine z_iconst (v := 0) dX4_marker_9 (by decide) ?_
  refine z_iald dX4_marker_10 (fun _ _ => rfl) rfl (i := 0) (by decide) ?_
  refine z_top ((show _ = nI n from hn)) ?_
  refine z_imul dX4_marker_11 ?_
  refine z_iconst (v := 1) dX4_marker_12 (by decide) ?_
  refine z_isub dX4_marker_13 ?_
  refine z_cSi (c_in μ _ _ _) q_X4_in tw_593 dX4_marker_14 rfl rfl (by omega) (Nat.le_of_ble_eq_true rfl) ?_
  refine z_beq (tgt := 31) dX4_marker_17 (by decide) (fun h1 => ?_) (fun h1 => ?_)
  · refine z_bipush (v := -2) dX4_marker_31 (by decide) ?_
    refine z_iret hR dX4_marker_33 (⟨_, rfl, Or.inl ⟨fun q => h1 q.1, rfl, rfl⟩⟩)
  · refine z_iload_n dX4_marker_20 rfl rfl ?_
    refine z_iconst (v := 0) dX4_marker_21 (by decide) ?_
    refine z_sipush (v := 3599) dX4_marker_22 (by decide) ?_
    refine z_cSi (c_in μ _ _ _) q_X4_in tw_593 dX4_marker_25 rfl rfl (by omega) (Nat.le_of_ble_eq_true rfl) ?_
    refine z_bne (tgt := 34) dX4_marker_28 (by decide) (fun h2 => ?_) (fun h2 => ?_)
    · refine z_aload_n dX4_marker_34 rfl rfl ?_
      refine zg_X4_at dX4_marker_35 tw_552 ?_
      refine z_bipush (v := 33) dX4_marker_38 (by decide) ?_
      refine z_iald dX4_marker_40 (fun _ _ => rfl) rfl (i := 33) (by decide) ?_
      refine z_top ((show _ = nI mk from hk)) ?_
      refine z_bipush (v := 6) dX4_marker_41 (by decide) ?_
      refine z_icmp_ne (tgt := 49) dX4_marker_43 (by decide) (fun h3 => ?_) (fun h3 => ?_)
      · have hlt : mk < 6 := by
          have : ¬ mk = 6 := fun e => h3 (congrArg nI e)
          omega
        refine z_bipush (v := 34) dX4_marker_49 (by decide) ?_
        refine z_bipush (v := 104) dX4_marker_51 (by decide) ?_
        refine z_aload_n dX4_marker_53 rfl rfl ?_
        refine zg_X4_at dX4_marker_54 tw_552 ?_
        refine z_bipush (v := 33) dX4_marker_57 (by decide) ?_
        refine z_iald dX4_marker_59 (fun _ _ => rfl) rfl (i := 33) (by decide) ?_
        refine z_top ((show _ = nI mk from hk)) ?_
        refine z_imul dX4_marker_60 ?_
        refine z_iadd dX4_marker_61 ?_
        refine z_top ((show nI 34 + nI 104 * nI mk = nI (34 + 104 * mk) by rw [pk_mul, nI_add])) ?_
        refine z_istS_n dX4_marker_62 rfl (by decide) rfl ?_
        refine z_aload_n dX4_marker_63 rfl rfl ?_
        refine zg_X4_at dX4_marker_64 tw_552 ?_
        refine z_iload_n dX4_marker_67 rfl rfl ?_
        refine z_iconst (v := 0) dX4_marker_68 (by decide) ?_
        refine z_iadd dX4_marker_69 ?_
        refine z_iload_n dX4_marker_70 rfl rfl ?_
        refine z_iast dX4_marker_71 (fun _ _ => rfl) (nI_add (34 + 104 * mk) 0) (show 34 + 104 * mk + 0 < 2386 by omega) ?_
        refine z_aload_n dX4_marker_72 rfl rfl ?_
        refine zg_X4_at dX4_marker_73 tw_552 ?_
        refine z_iload_n dX4_marker_76 rfl rfl ?_
        refine z_iconst (v := 1) dX4_marker_77 (by decide) ?_
        refine z_iadd dX4_marker_78 ?_
        refine z_iload_n dX4_marker_79 rfl rfl ?_
        refine z_iast dX4_marker_80 (fun _ _ => rfl) (nI_add (34 + 104 * mk) 1) (show 34 + 104 * mk + 1 < 2386 by omega) ?_
        refine z_aload_n dX4_marker_81 rfl rfl ?_
        refine zg_X4_at dX4_marker_82 tw_552 ?_
        refine z_iload_n dX4_marker_85 rfl rfl ?_
        refine z_iconst (v := 2) dX4_marker_86 (by decide) ?_
        refine z_iadd dX4_marker_87 ?_
        refine z_iconst (v := 0) dX4_marker_88 (by decide) ?_
        refine z_iast dX4_marker_89 (fun _ _ => rfl) (nI_add (34 + 104 * mk) 2) (show 34 + 104 * mk + 2 < 2386 by omega) ?_
        refine z_aload_n dX4_marker_90 rfl rfl ?_
        refine zg_X4_at dX4_marker_91 tw_552 ?_
        refine z_iload_n dX4_marker_94 rfl rfl ?_
        refine z_iconst (v := 3) dX4_marker_95 (by decide) ?_
        refine z_iadd dX4_marker_96 ?_
        refine z_iconst (v := 0) dX4_marker_97 (by decide) ?_
        refine z_iast dX4_marker_98 (fun _ _ => rfl) (nI_add (34 + 104 * mk) 3) (show 34 + 104 * mk + 3 < 2386 by omega) ?_
        simp only [st_upd]
        have e33 : upd (upd (upd (upd (μ (21, 0, 0)) (34 + 104 * mk + 0) p) (34 + 104 * mk + 1) g) (34 + 104 * mk + 2) 0) (34 + 104 * mk + 3) 0 33 = nI mk := by
          unfold upd
          rw [if_neg (by omega), if_neg (by omega), if_neg (by omega), if_neg (by omega)]
          exact hk
        refine z_aload_n dX4_marker_99 rfl rfl ?_
        refine zg_X4_at dX4_marker_100 tw_552 ?_
        refine z_bipush (v := 33) dX4_marker_103 (by decide) ?_
        refine z_dup2 dX4_marker_105 rfl rfl ?_
        refine z_iald dX4_marker_106 (fun _ _ => rfl) rfl (i := 33) (by decide) ?_
        rw [st_eq]
        refine z_top ((show _ = nI mk from e33)) ?_
        refine z_iconst (v := 1) dX4_marker_107 (by decide) ?_
        refine z_iadd dX4_marker_108 ?_
        refine z_top ((nI_1 mk)) ?_
        refine z_iast dX4_marker_109 (fun _ _ => rfl) rfl (i := 33) (by decide) ?_
        rw [st_upd]
        refine z_aload_n dX4_marker_110 rfl rfl ?_
        refine zg_X4_at dX4_marker_111 tw_552 ?_
        refine z_bipush (v := 33) dX4_marker_114 (by decide) ?_
        refine z_iald dX4_marker_116 (fun _ _ => rfl) rfl (i := 33) (by decide) ?_
        rw [st_eq]
        refine z_top ((show _ = nI (mk + 1) from if_pos rfl)) ?_
        refine z_iconst (v := 1) dX4_marker_117 (by decide) ?_
        refine z_isub dX4_marker_118 ?_
        refine z_iret hR dX4_marker_119 (⟨_, rfl, Or.inr (Or.inr ⟨⟨h1, h2⟩, hlt, nI_pred mk, rfl⟩)⟩)
      · refine z_bipush (v := -4) dX4_marker_46 (by decide) ?_
        have e6 : mk = 6 := (nI_eq (by omega) (by omega)).mp (show nI mk = nI 6 from h3)
        refine z_iret hR dX4_marker_48 (⟨_, rfl, Or.inr (Or.inl ⟨⟨h1, h2⟩, e6, rfl, rfl⟩)⟩)
    · refine z_bipush (v := -2) dX4_marker_31 (by decide) ?_
      refine z_iret hR dX4_marker_33 (⟨_, rfl, Or.inl ⟨fun q => h2 q.2, rfl, rfl⟩⟩)
def whereW (a : Nat → Int32) (mk : Nat) (x w : Int32) : Int32 :=
  if 0 ≤ x ∧ x ≤ nI mk - 1 then
    if w = 0 then a (34 + 104 * x.toNatClampNeg) else if w = 1 then a (34 + 104 * x.toNatClampNeg + 1) else if w = 2 then a (34 + 104 * x.toNatClampNeg) / 1000
    else if w = 3 then (if a (36 + 104 * x.toNatClampNeg) < 50 then a (36 + 104 * x.toNatClampNeg) else 50) else if w = 4 then a (34 + 104 * x.toNatClampNeg + 3) else -2
  else -1
theorem rngQ {x : Int32} {n : Nat} (hn : n < 2 ^ 31) (h : 0 ≤ x ∧ x ≤ nI n - 1) : ∃ r, r < n ∧ x = nI r := by
  by_cases h0 : n = 0
  · subst h0
    exact absurd (Int32.le_trans h.1 h.2) (by decide)
  · exact (rngP (by omega) hn).mp h
theorem m_where (μ : zM) (mk : Nat) (hk : μ (21, 0, 0) 33 = nI mk) (hk6 : mk ≤ 6) (x w : Int32) : zCi yX4_where prog_6_method_44_code 4 (some .int) 3 [zR (20, 0, 0), zI x, zI w] μ (whereW (μ (21, 0, 0)) mk x w) := by
  refine zCt.of "DyeTankModel" rfl (by decide +kernel) rfl (Nat.le_of_ble_eq_true rfl) (fun K hR => ?_)
  have v20 := zv_20
  have v21 := zv_21
  have v22 := zv_22
  have v23 := zv_23
  have v24 := zv_24
  have v25 := zv_25
  have v26 := zv_26
  have v27 := zv_27
  have v28 := zv_28
  refine z_ls (ls' := [zR (20, 0, 0), zI x, zI w, zN]) rfl ?_
  refine z_aload_n dX4_where_0 rfl rfl ?_
  refine z_iload_n dX4_where_1 rfl rfl ?_
  refine z_cVi (m_isMarker μ _) q_X4_isMarker tw_745 dX4_where_2 rfl rfl rfl (by omega) (Nat.le_of_ble_eq_true rfl) ?_
  rw [hk]
  refine z_bne (tgt := 10) dX4_where_5 (by decide) (fun h => ?_) (fun h => ?_)
  · obtain ⟨m, hm, e⟩ := rngQ (by omega) h
    have er : x.toNatClampNeg = m := by rw [e]; exact nI_clamp (by omega)
    have eW : ∀ w, whereW (μ (21, 0, 0)) mk x w = _ := fun w => if_pos h
    rw [er] at eW
    subst e
    refine z_bipush (v := 34) dX4_where_10 (by decide) ?_
    refine z_bipush (v := 104) dX4_where_12 (by decide) ?_
    refine z_iload_n dX4_where_14 rfl rfl ?_
    refine z_imul dX4_where_15 ?_
    refine z_iadd dX4_where_16 ?_
    refine z_top ((show nI 34 + nI 104 * nI m = nI (34 + 104 * m) by rw [pk_mul, nI_add])) ?_
    refine z_istS_n dX4_where_17 rfl (by decide) rfl ?_
    refine z_iload_n dX4_where_18 rfl rfl ?_
    rcases sw4 w with hsw | hsw | hsw | hsw | hsw | hsw
    · subst hsw
      refine z_tabIn (tgt := 52) (off := 33) dX4_where_19 (by decide) (by decide) rfl (by decide) ?_
      refine z_aload_n dX4_where_52 rfl rfl ?_
      refine zg_X4_at dX4_where_53 tw_552 ?_
      refine z_iload_n dX4_where_56 rfl rfl ?_
      refine z_iconst (v := 0) dX4_where_57 (by decide) ?_
      refine z_iadd dX4_where_58 ?_
      refine z_iald dX4_where_59 (fun _ _ => rfl) (nI_add (34 + 104 * m) 0) (show 34 + 104 * m + 0 < 2386 by omega) ?_
      refine z_iret hR dX4_where_60 (⟨rfl, by rw [eW]; rfl⟩)
    · subst hsw
      refine z_tabIn (tgt := 61) (off := 42) dX4_where_19 (by decide) (by decide) rfl (by decide) ?_
      refine z_aload_n dX4_where_61 rfl rfl ?_
      refine zg_X4_at dX4_where_62 tw_552 ?_
      refine z_iload_n dX4_where_65 rfl rfl ?_
      refine z_iconst (v := 1) dX4_where_66 (by decide) ?_
      refine z_iadd dX4_where_67 ?_
      refine z_iald dX4_where_68 (fun _ _ => rfl) (nI_add (34 + 104 * m) 1) (show 34 + 104 * m + 1 < 2386 by omega) ?_
      refine z_iret hR dX4_where_69 (⟨rfl, by rw [eW]; rfl⟩)
    · subst hsw
      refine z_tabIn (tgt := 70) (off := 51) dX4_where_19 (by decide) (by decide) rfl (by decide) ?_
      refine z_aload_n dX4_where_70 rfl rfl ?_
      refine zg_X4_at dX4_where_71 tw_552 ?_
      refine z_iload_n dX4_where_74 rfl rfl ?_
      refine z_iconst (v := 0) dX4_where_75 (by decide) ?_
      refine z_iadd dX4_where_76 ?_
      refine z_iald dX4_where_77 (fun _ _ => rfl) (nI_add (34 + 104 * m) 0) (show 34 + 104 * m + 0 < 2386 by omega) ?_
      refine z_sipush (v := 1000) dX4_where_78 (by decide) ?_
      refine z_idiv dX4_where_81 (by decide) ?_
      refine z_iret hR dX4_where_82 (⟨rfl, by rw [eW]; rfl⟩)
    · subst hsw
      refine z_tabIn (tgt := 83) (off := 64) dX4_where_19 (by decide) (by decide) rfl (by decide) ?_
      refine z_aload_n dX4_where_83 rfl rfl ?_
      refine z_iload_n dX4_where_84 rfl rfl ?_
      refine z_cVi (m_keptOf μ m (by omega)) q_X4_keptOf tw_749 dX4_where_85 rfl rfl rfl (by omega) (Nat.le_of_ble_eq_true rfl) ?_
      refine z_iret hR dX4_where_88 (⟨rfl, by rw [eW]; rfl⟩)
    · subst hsw
      refine z_tabIn (tgt := 89) (off := 70) dX4_where_19 (by decide) (by decide) rfl (by decide) ?_
      refine z_aload_n dX4_where_89 rfl rfl ?_
      refine zg_X4_at dX4_where_90 tw_552 ?_
      refine z_iload_n dX4_where_93 rfl rfl ?_
      refine z_iconst (v := 3) dX4_where_94 (by decide) ?_
      refine z_iadd dX4_where_95 ?_
      refine z_iald dX4_where_96 (fun _ _ => rfl) (nI_add (34 + 104 * m) 3) (show 34 + 104 * m + 3 < 2386 by omega) ?_
      refine z_iret hR dX4_where_97 (⟨rfl, by rw [eW]; rfl⟩)
    · refine z_tabOut (tgt := 98) dX4_where_19 hsw (by decide) ?_
      refine z_bipush (v := -2) dX4_where_98 (by decide) ?_
      refine z_iret hR dX4_where_100 (⟨rfl, by rw [eW, sw4_d hsw]⟩)
  · refine z_iconst (v := -1) dX4_where_8 (by decide) ?_
    refine z_iret hR dX4_where_9 (⟨rfl, congrArg zI (if_neg h).symm⟩)
def kepN (g : Nat) : Nat := if g < 50 then g else 50
def pathW (a : Nat → Int32) (mk : Nat) (x b w : Int32) : Int32 :=
  if 0 ≤ x ∧ x ≤ nI mk - 1 then
    if 0 ≤ w ∧ w ≤ 1 then
      if 0 ≤ b ∧ b ≤ nI (kepN (a (36 + 104 * x.toNatClampNeg)).toNatClampNeg) - 1 then a (38 + 104 * x.toNatClampNeg + 2 * (((a (36 + 104 * x.toNatClampNeg)).toNatClampNeg - 1 - b.toNatClampNeg) % 50) + w.toNatClampNeg) else -6
    else -2
  else -1
theorem kep_eq {g : Nat} (hg : g < 2 ^ 31) : (if nI g < 50 then nI g else 50) = nI (kepN g) := by
  unfold kepN
  by_cases h : g < 50
  · rw [if_pos h, if_pos (show nI g < 50 from (nI_ltI (b := 50) (by omega) (by omega)).mpr h)]
  · rw [if_neg h, if_neg (show ¬ nI g < 50 from fun q => h ((nI_ltI (b := 50) (by omega) (by omega)).mp q))]
    rfl
theorem m_path (μ : zM) (mk : Nat) (hk : μ (21, 0, 0) 33 = nI mk) (hk6 : mk ≤ 6) (hg : ∀ m, m < mk → ∃ g, g < 2 ^ 30 ∧ μ (21, 0, 0) (36 + 104 * m) = nI g) (x b w : Int32) : zCi yX4_path prog_6_method_45_code 5 (some .int) 3 [zR (20, 0, 0), zI x, zI b, zI w] μ (pathW (μ (21, 0, 0)) mk x b w) := by
  refine zCt.of "DyeTankModel" rfl (by decide +kernel) rfl (Nat.le_of_ble_eq_true rfl) (fun K hR => ?_)
  have v20 := zv_20
  have v21 := zv_21
  have v22 := zv_22
  have v23 := zv_23
  have v24 := zv_24
  have v25 := zv_25
  have v26 := zv_26
  have v27 := zv_27
  have v28 := zv_28
  refine z_ls (ls' := [zR (20, 0, 0), zI x, zI b, zI w, zN]) rfl ?_
  refine z_aload_n dX4_path_0 rfl rfl ?_
  refine z_iload_n dX4_path_1 rfl rfl ?_
  refine z_cVi (m_isMarker μ _) q_X4_isMarker tw_745 dX4_path_2 rfl rfl rfl (by omega) (Nat.le_of_ble_eq_true rfl) ?_
  rw [hk]
  refine z_bne (tgt := 10) dX4_path_5 (by decide) (fun h => ?_) (fun h => ?_)
  · obtain ⟨m, hm, e⟩ := rngQ (by omega) h
    have er : x.toNatClampNeg = m := by rw [e]; exact nI_clamp (by omega)
    have eW : pathW (μ (21, 0, 0)) mk x b w = _ := if_pos h
    rw [er] at eW
    subst e
    obtain ⟨g, hg1, eg⟩ := hg m hm
    rw [eg, nI_clamp (by omega)] at eW
    refine z_iload_n dX4_path_10 rfl rfl ?_
    refine z_iconst (v := 0) dX4_path_11 (by decide) ?_
    refine z_iconst (v := 1) dX4_path_12 (by decide) ?_
    refine z_cSi (c_in μ _ _ _) q_X4_in tw_593 dX4_path_13 rfl rfl (by omega) (Nat.le_of_ble_eq_true rfl) ?_
    refine z_bne (tgt := 22) dX4_path_16 (by decide) (fun h2 => ?_) (fun h2 => ?_)
    · refine z_iload_n dX4_path_22 rfl rfl ?_
      refine z_iconst (v := 0) dX4_path_23 (by decide) ?_
      refine z_aload_n dX4_path_24 rfl rfl ?_
      refine z_iload_n dX4_path_25 rfl rfl ?_
      refine z_cVi (m_keptOf μ m (by omega)) q_X4_keptOf tw_749 dX4_path_26 rfl rfl rfl (by omega) (Nat.le_of_ble_eq_true rfl) ?_
      refine z_top ((show _ = nI (kepN g) by rw [eg]; exact kep_eq (by omega))) ?_
      refine z_iconst (v := 1) dX4_path_29 (by decide) ?_
      refine z_isub dX4_path_30 ?_
      refine z_cSi (c_in μ _ _ _) q_X4_in tw_593 dX4_path_31 rfl rfl (by omega) (Nat.le_of_ble_eq_true rfl) ?_
      refine z_bne (tgt := 40) dX4_path_34 (by decide) (fun h3 => ?_) (fun h3 => ?_)
      · have hkb : kepN g ≤ 50 ∧ kepN g ≤ g := by unfold kepN; split <;> omega
        obtain ⟨q, hq, eb⟩ := rngQ (n := kepN g) (by omega) h3
        obtain ⟨j, hj, ew⟩ : ∃ j : Nat, j < 2 ∧ w = nI j := (rngP (n := 2) (by omega) (by omega)).mp h2
        have eq1 : b.toNatClampNeg = q := by rw [eb]; exact nI_clamp (by omega)
        have ew1 : w.toNatClampNeg = j := by rw [ew]; exact nI_clamp (by omega)
        rw [if_pos h2, if_pos h3, eq1, ew1] at eW
        subst eb ew
        have h50 : (g - 1 - q) % 50 < 50 := Nat.mod_lt _ (by omega)
        refine z_bipush (v := 34) dX4_path_40 (by decide) ?_
        refine z_bipush (v := 104) dX4_path_42 (by decide) ?_
        refine z_iload_n dX4_path_44 rfl rfl ?_
        refine z_imul dX4_path_45 ?_
        refine z_iadd dX4_path_46 ?_
        refine z_top ((show nI 34 + nI 104 * nI m = nI (34 + 104 * m) by rw [pk_mul, nI_add])) ?_
        refine z_istS dX4_path_47 (by decide) rfl ?_
        refine z_aload_n dX4_path_49 rfl rfl ?_
        refine zg_X4_at dX4_path_50 tw_552 ?_
        refine z_iload dX4_path_53 rfl ?_
        refine z_iconst (v := 4) dX4_path_55 (by decide) ?_
        refine z_iadd dX4_path_56 ?_
        refine z_top ((nI_add (34 + 104 * m) 4)) ?_
        refine z_iconst (v := 2) dX4_path_57 (by decide) ?_
        refine z_aload_n dX4_path_58 rfl rfl ?_
        refine zg_X4_at dX4_path_59 tw_552 ?_
        refine z_iload dX4_path_62 rfl ?_
        refine z_iconst (v := 2) dX4_path_64 (by decide) ?_
        refine z_iadd dX4_path_65 ?_
        refine z_iald dX4_path_66 (fun _ _ => rfl) (nI_add (34 + 104 * m) 2) (show 34 + 104 * m + 2 < 2386 by omega) ?_
        refine z_top ((show _ = nI g by rw [show 34 + 104 * m + 2 = 36 + 104 * m by omega]; exact eg)) ?_
        refine z_iconst (v := 1) dX4_path_67 (by decide) ?_
        refine z_isub dX4_path_68 ?_
        refine z_iload_n dX4_path_69 rfl rfl ?_
        refine z_isub dX4_path_70 ?_
        refine z_top ((show nI g - nI 1 - nI q = nI (g - 1 - q) by rw [pk_sub (by omega), pk_sub (by omega)])) ?_
        refine z_bipush (v := 50) dX4_path_71 (by decide) ?_
        refine z_irem dX4_path_73 (by decide) ?_
        refine z_top ((show _ = nI ((g - 1 - q) % 50) from pk_rem (d := 50) (by omega) (by omega) (by omega))) ?_
        refine z_imul dX4_path_74 ?_
        refine z_iadd dX4_path_75 ?_
        refine z_iload_n dX4_path_76 rfl rfl ?_
        refine z_iadd dX4_path_77 ?_
        refine z_top ((show nI (34 + 104 * m + 4) + nI 2 * nI ((g - 1 - q) % 50) + nI j = nI (38 + 104 * m + 2 * ((g - 1 - q) % 50) + j) by rw [pk_mul, nI_add, nI_add]; congr 1; omega)) ?_
        refine z_iald dX4_path_78 (fun _ _ => rfl) rfl (show 38 + 104 * m + 2 * ((g - 1 - q) % 50) + j < 2386 by omega) ?_
        refine z_iret hR dX4_path_79 (⟨rfl, by rw [eW]⟩)
      · refine z_bipush (v := -6) dX4_path_37 (by decide) ?_
        refine z_iret hR dX4_path_39 (⟨rfl, by rw [eW, if_pos h2, if_neg h3]⟩)
    · refine z_bipush (v := -2) dX4_path_19 (by decide) ?_
      refine z_iret hR dX4_path_21 (⟨rfl, by rw [eW, if_neg h2]⟩)
  · refine z_iconst (v := -1) dX4_path_8 (by decide) ?_
    refine z_iret hR dX4_path_9 (⟨rfl, congrArg zI (if_neg h).symm⟩)
