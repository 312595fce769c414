/-! the component's calls that read, over the row -/
def R0 (a : Nat → Int32) : Prop := a 0 = nI (rN a) ∧ 2 ≤ rN a ∧ rN a ≤ 12
theorem x_ring (μ : zM) (a : Nat → Int32) (h : Rep μ 0 a) (h0 : R0 a) (x w : Int32) : zCi yX3_ring prog_1_method_8_code 3 (some .int) 4 [zR (0, 0, 0), zI x, zI w] μ (ringW a (rN a) x w) := by
  obtain ⟨⟨g0, g1, g2⟩, gS, gP, gA, gT, gD, gM⟩ := h
  obtain ⟨hn, hn2, hn12⟩ := h0
  generalize rN a = n at hn hn2 hn12 ⊢
  have ht : (0 : Nat) < 4 := by omega
  refine zCt.of "DyeTank" rfl (by decide +kernel) rfl (Nat.le_of_ble_eq_true rfl) (fun K hR => ?_)
  have v0 := zv_0
  have v1 := zv_1
  have v2 := zv_2
  have v3 := zv_3
  have v4 := zv_4
  have v5 := zv_5 0 ht
  have v7 := zv_7 0 ht
  have v8 := zv_8 0 ht
  refine z_ls (ls' := [zR (0, 0, 0), zI x, zI w]) rfl ?_
  refine z_aload_n dX3_ring_0 rfl rfl ?_
  refine zg_X3_tank dX3_ring_1 tw_162 ?_
  refine z_iload_n dX3_ring_4 rfl rfl ?_
  refine z_cVi (c_hasRing μ 0 ht _) q_X2_hasRing tw_199 dX3_ring_5 rfl rfl rfl (by omega) (Nat.le_of_ble_eq_true rfl) ?_
  rw [g0, hn]
  refine z_bne (tgt := 14) dX3_ring_8 (by decide) (fun h => ?_) (fun h => ?_)
  · rw [ringP_iff (by omega) (by omega)] at h
    obtain ⟨r, hr, e⟩ := (rngP (by omega) (by omega)).mp h
    have er : x.toNatClampNeg = r := by rw [e]; exact nI_clamp (by omega)
    have eW : ∀ w, ringW a n x w = _ := fun w => if_pos h
    rw [er] at eW
    subst e
    refine z_iload_n dX3_ring_14 rfl rfl ?_
    rcases sw6 w with hsw | hsw | hsw | hsw | hsw | hsw | hsw | hsw
    · subst hsw
      refine z_tabIn (tgt := 56) (off := 41) dX3_ring_15 (by decide) (by decide) rfl (by decide) ?_
      refine z_aload_n dX3_ring_56 rfl rfl ?_
      refine zg_X3_tank dX3_ring_57 tw_162 ?_
      refine z_iload_n dX3_ring_60 rfl rfl ?_
      refine z_cVi (c_velocityOf μ 0 ht r (by omega)) q_X2_velocityOf tw_207 dX3_ring_61 rfl rfl rfl (by omega) (Nat.le_of_ble_eq_true rfl) ?_
      refine z_iret hR dX3_ring_64 (⟨rfl, by rw [eW]; exact congrArg zI (vel_congr (gP r (by omega)))⟩)
    · subst hsw
      refine z_tabIn (tgt := 65) (off := 50) dX3_ring_15 (by decide) (by decide) rfl (by decide) ?_
      refine z_aload_n dX3_ring_65 rfl rfl ?_
      refine zg_X3_tank dX3_ring_66 tw_162 ?_
      refine zg_X2_momenta dX3_ring_69 tw_80 ?_
      refine z_iload_n dX3_ring_72 rfl rfl ?_
      refine z_iald dX3_ring_73 (fun _ _ => rfl) rfl (show r < 12 by omega) ?_
      refine z_iret hR dX3_ring_74 (⟨rfl, by rw [eW]; exact congrArg zI (gP r (by omega))⟩)
    · subst hsw
      refine z_tabIn (tgt := 75) (off := 60) dX3_ring_15 (by decide) (by decide) rfl (by decide) ?_
      refine z_aload_n dX3_ring_75 rfl rfl ?_
      refine zg_X3_tank dX3_ring_76 tw_162 ?_
      refine zg_X2_angles dX3_ring_79 tw_82 ?_
      refine z_iload_n dX3_ring_82 rfl rfl ?_
      refine z_iald dX3_ring_83 (fun _ _ => rfl) rfl (show r < 12 by omega) ?_
      refine z_iret hR dX3_ring_84 (⟨rfl, by rw [eW]; exact congrArg zI (gA r (by omega))⟩)
    · subst hsw
      refine z_tabIn (tgt := 85) (off := 70) dX3_ring_15 (by decide) (by decide) rfl (by decide) ?_
      refine z_aload_n dX3_ring_85 rfl rfl ?_
      refine zg_X3_tank dX3_ring_86 tw_162 ?_
      refine z_iload_n dX3_ring_89 rfl rfl ?_
      refine z_cVi (c_pushOf μ 0 ht r (by omega)) q_X2_pushOf tw_331 dX3_ring_90 rfl rfl rfl (by omega) (Nat.le_of_ble_eq_true rfl) ?_
      refine z_iret hR dX3_ring_93 (⟨rfl, by rw [eW]; exact congrArg zI (psh_congr (gS 5 (by omega)) (gS 4 (by omega)) (gP r (by omega)))⟩)
    · subst hsw
      refine z_tabIn (tgt := 94) (off := 79) dX3_ring_15 (by decide) (by decide) rfl (by decide) ?_
      refine z_aload_n dX3_ring_94 rfl rfl ?_
      refine zg_X3_tank dX3_ring_95 tw_162 ?_
      refine z_iconst (v := 0) dX3_ring_98 (by decide) ?_
      refine z_iload_n dX3_ring_99 rfl rfl ?_
      refine z_cVi (c_amountInRing μ 0 ht 0 r (by omega) (by omega)) q_X2_amountInRing tw_332 dX3_ring_100 rfl rfl rfl (by omega) (Nat.le_of_ble_eq_true rfl) ?_
      refine z_iret hR dX3_ring_103 (⟨rfl, by rw [eW]; exact congrArg zI (ringS_congr (gD 0 (by omega)) (by omega))⟩)
    · subst hsw
      refine z_tabIn (tgt := 104) (off := 89) dX3_ring_15 (by decide) (by decide) rfl (by decide) ?_
      refine z_aload_n dX3_ring_104 rfl rfl ?_
      refine zg_X3_tank dX3_ring_105 tw_162 ?_
      refine z_iconst (v := 1) dX3_ring_108 (by decide) ?_
      refine z_iload_n dX3_ring_109 rfl rfl ?_
      refine z_cVi (c_amountInRing μ 0 ht 1 r (by omega) (by omega)) q_X2_amountInRing tw_332 dX3_ring_110 rfl rfl rfl (by omega) (Nat.le_of_ble_eq_true rfl) ?_
      refine z_iret hR dX3_ring_113 (⟨rfl, by rw [eW]; exact congrArg zI (ringS_congr (gD 1 (by omega)) (by omega))⟩)
    · subst hsw
      refine z_tabIn (tgt := 114) (off := 99) dX3_ring_15 (by decide) (by decide) rfl (by decide) ?_
      refine z_aload_n dX3_ring_114 rfl rfl ?_
      refine zg_X3_tank dX3_ring_115 tw_162 ?_
      refine z_iconst (v := 2) dX3_ring_118 (by decide) ?_
      refine z_iload_n dX3_ring_119 rfl rfl ?_
      refine z_cVi (c_amountInRing μ 0 ht 2 r (by omega) (by omega)) q_X2_amountInRing tw_332 dX3_ring_120 rfl rfl rfl (by omega) (Nat.le_of_ble_eq_true rfl) ?_
      refine z_iret hR dX3_ring_123 (⟨rfl, by rw [eW]; exact congrArg zI (ringS_congr (gD 2 (by omega)) (by omega))⟩)
    · refine z_tabOut (tgt := 124) dX3_ring_15 hsw (by decide) ?_
      refine z_ldc (v := -1000000002) dX3_ring_124 tw_194 ?_
      refine z_iret hR dX3_ring_126 (⟨rfl, by rw [eW, sw6_d hsw]⟩)
  · rw [ringP_iff (by omega) (by omega)] at h
    refine z_ldc (v := -1000000001) dX3_ring_11 tw_203 ?_
    refine z_iret hR dX3_ring_13 (⟨rfl, congrArg zI (if_neg h).symm⟩)
theorem cell_eq {μ : zM} {a : Nat → Int32} (gA : ∀ r, r < 12 → μ (8, 0, 0) r = aA a r) {r : Nat} (hr : r < 12) (L : Nat) (s : Int32) : nI (rwi L r) + fmd (s - μ (8, 0, 0) r / 150) 24 = nI (rwi L r + cel a r s) := by
  rw [gA r hr, (cel_eq a r s).2, nI_add]
theorem x_dye (μ : zM) (a : Nat → Int32) (h : Rep μ 0 a) (h0 : R0 a) (c L r s : Int32) : zCi yX3_dye prog_1_method_9_code 5 (some .int) 4 [zR (0, 0, 0), zI c, zI L, zI r, zI s] μ (dyeW a (rN a) c L r s) := by
  obtain ⟨⟨g0, g1, g2⟩, gS, gP, gA, gT, gD, gM⟩ := h
  obtain ⟨hn, hn2, hn12⟩ := h0
  generalize rN a = n at hn hn2 hn12 ⊢
  have ht : (0 : Nat) < 4 := by omega
  refine zCt.of "DyeTank" rfl (by decide +kernel) rfl (Nat.le_of_ble_eq_true rfl) (fun K hR => ?_)
  have v0 := zv_0
  have v1 := zv_1
  have v2 := zv_2
  have v3 := zv_3
  have v4 := zv_4
  have v5 := zv_5 0 ht
  have v10 := zv_10 0 ht
  refine z_ls (ls' := [zR (0, 0, 0), zI c, zI L, zI r, zI s]) rfl ?_
  refine z_aload_n dX3_dye_0 rfl rfl ?_
  refine z_iload_n dX3_dye_1 rfl rfl ?_
  refine z_iload_n dX3_dye_2 rfl rfl ?_
  refine z_iload_n dX3_dye_3 rfl rfl ?_
  refine z_iload dX3_dye_4 rfl ?_
  refine z_cVi (c_isPlaceOfDye μ n (g0.trans hn) hn2 hn12 _ _ _ _) q_X3_isPlaceOfDye tw_241 dX3_dye_6 rfl rfl rfl (by omega) (Nat.le_of_ble_eq_true rfl) ?_
  refine z_bne (tgt := 14) dX3_dye_9 (by decide) (fun h => ?_) (fun h => ?_)
  · obtain ⟨c', L', r', h3, h4, h5, e1, e2, e3⟩ := isPl_ix (by omega) hn12 h
    have eW : dyeW a n c L r s = _ := if_pos h
    rw [show c.toNatClampNeg = c' by rw [e1]; exact nI_clamp (by omega), show L.toNatClampNeg = L' by rw [e2]; exact nI_clamp (by omega), show r.toNatClampNeg = r' by rw [e3]; exact nI_clamp (by omega)] at eW
    subst e1 e2 e3
    have v11 := zv_11 0 ht c' h3
    have hj := (cel_eq a r' s).1
    refine z_aload_n dX3_dye_14 rfl rfl ?_
    refine zg_X3_tank dX3_dye_15 tw_162 ?_
    refine zg_X2_dyes dX3_dye_18 tw_86 ?_
    refine z_iload_n dX3_dye_21 rfl rfl ?_
    refine z_ald10 dX3_dye_22 rfl h3 ?_
    refine z_aload_n dX3_dye_23 rfl rfl ?_
    refine zg_X3_tank dX3_dye_24 tw_162 ?_
    refine z_iload_n dX3_dye_27 rfl rfl ?_
    refine z_iload_n dX3_dye_28 rfl rfl ?_
    refine z_iload dX3_dye_29 rfl ?_
    refine z_cVi (c_cellIn μ 0 ht L' r' (by omega) s) q_X2_cellIn tw_250 dX3_dye_31 rfl rfl rfl (by omega) (Nat.le_of_ble_eq_true rfl) ?_
    refine z_iald dX3_dye_34 (fun _ _ => rfl) (cell_eq gA (by omega) L' s) (show rwi L' r' + cel a r' s < 576 by unfold rwi; omega) ?_
    refine z_iret hR dX3_dye_35 (⟨rfl, by rw [eW, gD c' h3 _ (by unfold rwi; omega)]; unfold aD dix; rw [Nat.add_assoc]⟩)
  · refine z_iconst (v := -1) dX3_dye_12 (by decide) ?_
    refine z_iret hR dX3_dye_13 (⟨rfl, congrArg zI (if_neg h).symm⟩)
theorem x_colour (μ : zM) (a : Nat → Int32) (h : Rep μ 0 a) (h0 : R0 a) (x w : Int32) : zCl yX3_colour prog_1_method_10_code 3 (some .long) 5 [zR (0, 0, 0), zI x, zI w] μ (colW a (rN a) x w) := by
  obtain ⟨⟨g0, g1, g2⟩, gS, gP, gA, gT, gD, gM⟩ := h
  obtain ⟨hn, hn2, hn12⟩ := h0
  generalize rN a = n at hn hn2 hn12 gT ⊢
  have ht : (0 : Nat) < 4 := by omega
  refine zCt.of "DyeTank" rfl (by decide +kernel) rfl (Nat.le_of_ble_eq_true rfl) (fun K hR => ?_)
  have v0 := zv_0
  have v1 := zv_1
  have v2 := zv_2
  have v3 := zv_3
  have v4 := zv_4
  have v5 := zv_5 0 ht
  have v9 := zv_9 0 ht
  refine z_ls (ls' := [zR (0, 0, 0), zI x, zI w]) rfl ?_
  refine z_iload_n dX3_colour_0 rfl rfl ?_
  refine z_cSi (c_isColour μ _) q_X3_isColour tw_245 dX3_colour_1 rfl rfl (by omega) (Nat.le_of_ble_eq_true rfl) ?_
  refine z_bne (tgt := 11) dX3_colour_4 (by decide) (fun h => ?_) (fun h => ?_)
  · obtain ⟨c, hc, e⟩ : ∃ c : Nat, c < 3 ∧ x = nI c := (rngP (n := 3) (by omega) (by omega)).mp h
    have er : x.toNatClampNeg = c := by rw [e]; exact nI_clamp (by omega)
    have eW : ∀ w, colW a n x w = _ := fun w => if_pos h
    rw [er] at eW
    subst e
    refine z_iload_n dX3_colour_11 rfl rfl ?_
    rcases sw5 w with hsw | hsw | hsw | hsw | hsw | hsw | hsw
    · subst hsw
      refine z_tabIn (tgt := 52) (off := 40) dX3_colour_12 (by decide) (by decide) rfl (by decide) ?_
      refine z_aload_n dX3_colour_52 rfl rfl ?_
      refine zg_X3_tank dX3_colour_53 tw_162 ?_
      refine zg_X2_totals dX3_colour_56 tw_84 ?_
      refine z_iload_n dX3_colour_59 rfl rfl ?_
      refine z_iald dX3_colour_60 (fun _ _ => rfl) rfl hc ?_
      refine z_i2l dX3_colour_61 ?_
      refine z_lret hR dX3_colour_62 (⟨rfl, by rw [eW, gT c hc]; rfl⟩)
    · subst hsw
      refine z_tabIn (tgt := 63) (off := 51) dX3_colour_12 (by decide) (by decide) rfl (by decide) ?_
      refine z_aload_n dX3_colour_63 rfl rfl ?_
      refine zg_X3_tank dX3_colour_64 tw_162 ?_
      refine z_iload_n dX3_colour_67 rfl rfl ?_
      refine z_cVi (c_amountInTop μ 0 n ht (g0.trans hn) hn12 c hc) q_X2_amountInTop tw_349 dX3_colour_68 rfl rfl rfl (by omega) (Nat.le_of_ble_eq_true rfl) ?_
      refine z_i2l dX3_colour_71 ?_
      refine z_lret hR dX3_colour_72 (⟨rfl, by rw [eW, sm_congr n (fun r hr => rowS_congr (gD c hc) (L := 0) (by omega) (show r < 12 by omega))]; rfl⟩)
    · subst hsw
      refine z_tabIn (tgt := 73) (off := 61) dX3_colour_12 (by decide) (by decide) rfl (by decide) ?_
      refine z_aload_n dX3_colour_73 rfl rfl ?_
      refine zg_X3_tank dX3_colour_74 tw_162 ?_
      refine z_iload_n dX3_colour_77 rfl rfl ?_
      refine z_cVi (c_cellsWith μ 0 ht c hc) q_X2_cellsWith tw_353 dX3_colour_78 rfl rfl rfl (by omega) (Nat.le_of_ble_eq_true rfl) ?_
      refine z_i2l dX3_colour_81 ?_
      refine z_lret hR dX3_colour_82 (⟨rfl, by rw [eW, cnf_congr 576 (gD c hc)]; rfl⟩)
    · subst hsw
      refine z_tabIn (tgt := 83) (off := 71) dX3_colour_12 (by decide) (by decide) rfl (by decide) ?_
      refine z_aload_n dX3_colour_83 rfl rfl ?_
      refine zg_X3_tank dX3_colour_84 tw_162 ?_
      refine z_iload_n dX3_colour_87 rfl rfl ?_
      refine z_cVi (c_greatestAmount μ 0 ht c hc) q_X2_greatestAmount tw_357 dX3_colour_88 rfl rfl rfl (by omega) (Nat.le_of_ble_eq_true rfl) ?_
      refine z_i2l dX3_colour_91 ?_
      refine z_lret hR dX3_colour_92 (⟨rfl, by rw [eW, mxf_congr 576 (gD c hc)]; rfl⟩)
    · subst hsw
      refine z_tabIn (tgt := 93) (off := 81) dX3_colour_12 (by decide) (by decide) rfl (by decide) ?_
      refine z_aload_n dX3_colour_93 rfl rfl ?_
      refine zg_X3_tank dX3_colour_94 tw_162 ?_
      refine z_iload_n dX3_colour_97 rfl rfl ?_
      refine z_cVl (c_meanPlace μ 0 n ht (g0.trans hn) hn12 c hc) q_X2_meanPlace tw_361 dX3_colour_98 rfl rfl rfl (by omega) (Nat.le_of_ble_eq_true rfl) ?_
      refine z_lret hR dX3_colour_101 (⟨rfl, by rw [eW, gT c hc, meanP_congr (gD c hc) hn12]; rfl⟩)
    · subst hsw
      refine z_tabIn (tgt := 102) (off := 90) dX3_colour_12 (by decide) (by decide) rfl (by decide) ?_
      refine z_aload_n dX3_colour_102 rfl rfl ?_
      refine zg_X3_tank dX3_colour_103 tw_162 ?_
      refine z_iload_n dX3_colour_106 rfl rfl ?_
      refine z_cVl (c_unevenness μ 0 n ht (g0.trans hn) hn2 hn12 c hc) q_X2_unevenness tw_367 dX3_colour_107 rfl rfl rfl (by omega) (Nat.le_of_ble_eq_true rfl) ?_
      refine z_lret hR dX3_colour_110 (⟨rfl, by rw [eW, gT c hc, unev_congr (gD c hc) hn12]; rfl⟩)
    · refine z_tabOut (tgt := 111) dX3_colour_12 hsw (by decide) ?_
      refine z_ldc2 (v := -2) dX3_colour_111 tw_374 ?_
      refine z_lret hR dX3_colour_114 (⟨rfl, by rw [eW, sw5_d hsw]⟩)
  · refine z_ldc2 (v := -1) dX3_colour_7 tw_348 ?_
    refine z_lret hR dX3_colour_10 (⟨rfl, congrArg zL (if_neg h).symm⟩)
