theorem fmd50 : ∀ k, k < 50 → ∀ b, b < 50 → fmd (nI k - 1 - nI b) 50 = nI ((k + 49 - b) % 50) := by decide +kernel
theorem x_state (μ : zM) (a : Nat → Int32) (h : Rep μ 0 a) (h0 : R0 a) (w : Int32) : zCi yX3_state prog_1_method_11_code 2 (some .int) 4 [zR (0, 0, 0), zI w] μ (staW a (rN a) (μ (3, 0, 0) 0) w) := by
  obtain ⟨⟨g0, g1, g2⟩, gS, gP, gA, gT, gD, gM⟩ := h
  obtain ⟨hn, hn2, hn12⟩ := h0
  generalize rN a = n at hn hn2 hn12 ⊢
  have ht : (0 : Nat) < 4 := by omega
  refine zCt.of "DyeTank" rfl (by decide +kernel) rfl (Nat.le_of_ble_eq_true rfl) (fun K hR => ?_)
  have v0 := zv_0
  have v1 := zv_1
  have v2 := zv_2
  have v3 := zv_3
  have v4 := zv_4
  have v5 := zv_5 0 ht
  have v6 := zv_6 0 ht
  refine z_ls (ls' := [zR (0, 0, 0), zI w]) rfl ?_
  refine z_iload_n dX3_state_0 rfl rfl ?_
  refine z_bipush (v := 6) dX3_state_1 (by decide) ?_
  refine z_bipush (v := 12) dX3_state_3 (by decide) ?_
  refine z_cSi (c_within μ _ _ _) q_X3_within tw_182 dX3_state_5 rfl rfl (by omega) (Nat.le_of_ble_eq_true rfl) ?_
  refine z_beq (tgt := 24) dX3_state_8 (by decide) (fun h => ?_) (fun h => ?_)
  · have eW : staW a n (μ (3, 0, 0) 0) w = _ := if_neg h
    refine z_iload_n dX3_state_24 rfl rfl ?_
    rcases sw5 w with hsw | hsw | hsw | hsw | hsw | hsw | hsw
    · subst hsw
      refine z_tabIn (tgt := 64) (off := 39) dX3_state_25 (by decide) (by decide) rfl (by decide) ?_
      refine z_aload_n dX3_state_64 rfl rfl ?_
      refine zg_X3_tank dX3_state_65 tw_162 ?_
      refine zg_X2_time dX3_state_68 tw_74 ?_
      refine z_iret hR dX3_state_71 (⟨rfl, by rw [eW, g1]; rfl⟩)
    · subst hsw
      refine z_tabIn (tgt := 72) (off := 47) dX3_state_25 (by decide) (by decide) rfl (by decide) ?_
      refine z_aload_n dX3_state_72 rfl rfl ?_
      refine zg_X3_tank dX3_state_73 tw_162 ?_
      refine zg_X2_rings dX3_state_76 tw_72 ?_
      refine z_iret hR dX3_state_79 (⟨rfl, by rw [eW, g0]; rfl⟩)
    · subst hsw
      refine z_tabIn (tgt := 80) (off := 55) dX3_state_25 (by decide) (by decide) rfl (by decide) ?_
      refine z_aload_n dX3_state_80 rfl rfl ?_
      refine zg_X3_tank dX3_state_81 tw_162 ?_
      refine zg_X2_markerCount dX3_state_84 tw_76 ?_
      refine z_iret hR dX3_state_87 (⟨rfl, by rw [eW, g2]; rfl⟩)
    · subst hsw
      refine z_tabIn (tgt := 88) (off := 63) dX3_state_25 (by decide) (by decide) rfl (by decide) ?_
      refine z_aload_n dX3_state_88 rfl rfl ?_
      refine zg_X3_tank dX3_state_89 tw_162 ?_
      refine z_cVi (c_allMomenta μ 0 n ht (g0.trans hn) hn12) q_X2_allMomenta tw_233 dX3_state_92 rfl rfl rfl (by omega) (Nat.le_of_ble_eq_true rfl) ?_
      refine z_iret hR dX3_state_95 (⟨rfl, by rw [eW, sm_congr n (fun r hr => gP r (by omega))]; rfl⟩)
    · subst hsw
      refine z_tabIn (tgt := 96) (off := 71) dX3_state_25 (by decide) (by decide) rfl (by decide) ?_
      refine z_aload_n dX3_state_96 rfl rfl ?_
      refine zg_X3_tank dX3_state_97 tw_162 ?_
      refine z_cVi (c_greatestShear μ 0 n ht (g0.trans hn) hn2 hn12) q_X2_greatestShear tw_379 dX3_state_100 rfl rfl rfl (by omega) (Nat.le_of_ble_eq_true rfl) ?_
      refine z_iret hR dX3_state_103 (⟨rfl, by rw [eW, mxf_congr (n - 1) (fun r hr => by rw [vel_congr (gP r (by omega)), vel_congr (gP (r + 1) (by omega))])]; rfl⟩)
    · subst hsw
      refine z_tabIn (tgt := 104) (off := 79) dX3_state_25 (by decide) (by decide) rfl (by decide) ?_
      refine z_aload_n dX3_state_104 rfl rfl ?_
      refine zg_X3_pad dX3_state_105 tw_166 ?_
      refine zg_X1_length dX3_state_108 tw_125 ?_
      refine z_iret hR dX3_state_111 (⟨rfl, by rw [eW]; rfl⟩)
    · refine z_tabOut (tgt := 112) dX3_state_25 hsw (by decide) ?_
      refine z_ldc (v := -1000000002) dX3_state_112 tw_194 ?_
      refine z_iret hR dX3_state_114 (⟨rfl, by rw [eW, sw5_d hsw]⟩)
  · have eW : staW a n (μ (3, 0, 0) 0) w = _ := if_pos h
    obtain ⟨k, hk, e⟩ : ∃ k : Nat, k < 13 ∧ w = nI k := (rngS (by omega)).mp ⟨Int32.le_trans (by decide) h.1, Int32.lt_of_le_of_lt h.2 (by decide)⟩
    have h6 : 6 ≤ k := nle (a := 6) (by rw [← e]; exact h.1)
    rw [show w.toNatClampNeg = k by rw [e]; exact nI_clamp (by omega)] at eW
    refine z_aload_n dX3_state_11 rfl rfl ?_
    refine zg_X3_tank dX3_state_12 tw_162 ?_
    refine zg_X2_settings dX3_state_15 tw_78 ?_
    refine z_iload_n dX3_state_18 rfl rfl ?_
    refine z_bipush (v := 6) dX3_state_19 (by decide) ?_
    refine z_isub dX3_state_21 ?_
    refine z_iald dX3_state_22 (fun _ _ => rfl) (show w - 6 = nI (k - 6) by rw [e]; exact pk_sub (b := 6) h6) (show k - 6 < 7 by omega) ?_
    refine z_iret hR dX3_state_23 (⟨rfl, by rw [eW, gS (k - 6) (by omega)]; rfl⟩)
theorem c_placeBack (μ : zM) (t i k b : Nat) (ht : t < 4) (hi : i < 6) (hx : μ (13, t, i) 4 = nI k) (hk : k < 50) (hb : b < 50) : zCi yX0_placeBack prog_2_method_7_code 2 (some .int) 2 [zR (13, t, i), zI (nI b)] μ (μ (14, t, i) ((k + 49 - b) % 50)) := by
  have h50 : (k + 49 - b) % 50 < 50 := Nat.mod_lt _ (by omega)
  refine zCt.of "DyeTank$Marker" rfl (by decide +kernel) rfl (Nat.le_of_ble_eq_true rfl) (fun K hR => ?_)
  have v13 := zv_13 t ht i hi
  have v14 := zv_14 t ht i hi
  refine z_ls (ls' := [zR (13, t, i), zI (nI b)]) rfl ?_
  refine z_aload_n dX0_placeBack_0 rfl rfl ?_
  refine zg_X0_places dX0_placeBack_1 tw_41 ?_
  refine z_aload_n dX0_placeBack_4 rfl rfl ?_
  refine zg_X0_next dX0_placeBack_5 tw_40 ?_
  refine z_top ((show _ = nI k from hx)) ?_
  refine z_iconst (v := 1) dX0_placeBack_8 (by decide) ?_
  refine z_isub dX0_placeBack_9 ?_
  refine z_iload_n dX0_placeBack_10 rfl rfl ?_
  refine z_isub dX0_placeBack_11 ?_
  refine z_bipush (v := 50) dX0_placeBack_12 (by decide) ?_
  refine z_cSi (c_floorMod _ _ _ (by decide)) q_J9_floorMod_7cf53 tw_320 dX0_placeBack_14 rfl rfl (by omega) (Nat.le_of_ble_eq_true rfl) ?_
  refine z_top ((fmd50 k hk b hb)) ?_
  refine z_iald dX0_placeBack_17 (fun _ _ => rfl) rfl h50 ?_
  refine z_iret hR dX0_placeBack_18 (⟨rfl, rfl⟩)
theorem c_angleBack (μ : zM) (t i k b : Nat) (ht : t < 4) (hi : i < 6) (hx : μ (13, t, i) 4 = nI k) (hk : k < 50) (hb : b < 50) : zCi yX0_angleBack prog_2_method_8_code 2 (some .int) 2 [zR (13, t, i), zI (nI b)] μ (μ (15, t, i) ((k + 49 - b) % 50)) := by
  have h50 : (k + 49 - b) % 50 < 50 := Nat.mod_lt _ (by omega)
  refine zCt.of "DyeTank$Marker" rfl (by decide +kernel) rfl (Nat.le_of_ble_eq_true rfl) (fun K hR => ?_)
  have v13 := zv_13 t ht i hi
  have v15 := zv_15 t ht i hi
  refine z_ls (ls' := [zR (13, t, i), zI (nI b)]) rfl ?_
  refine z_aload_n dX0_angleBack_0 rfl rfl ?_
  refine zg_X0_angles dX0_angleBack_1 tw_42 ?_
  refine z_aload_n dX0_angleBack_4 rfl rfl ?_
  refine zg_X0_next dX0_angleBack_5 tw_40 ?_
  refine z_top ((show _ = nI k from hx)) ?_
  refine z_iconst (v := 1) dX0_angleBack_8 (by decide) ?_
  refine z_isub dX0_angleBack_9 ?_
  refine z_iload_n dX0_angleBack_10 rfl rfl ?_
  refine z_isub dX0_angleBack_11 ?_
  refine z_bipush (v := 50) dX0_angleBack_12 (by decide) ?_
  refine z_cSi (c_floorMod _ _ _ (by decide)) q_J9_floorMod_7cf53 tw_320 dX0_angleBack_14 rfl rfl (by omega) (Nat.le_of_ble_eq_true rfl) ?_
  refine z_top ((fmd50 k hk b hb)) ?_
  refine z_iald dX0_angleBack_17 (fun _ _ => rfl) rfl h50 ?_
  refine z_iret hR dX0_angleBack_18 (⟨rfl, rfl⟩)
theorem x_where (μ : zM) (a : Nat → Int32) (h : Rep μ 0 a) (hk : a 33 = nI (rK a)) (hk6 : rK a ≤ 6) (hg : ∀ m, m < rK a → ∃ g, g < 2 ^ 30 ∧ a (36 + 104 * m) = nI g) (x w : Int32) : zCi yX3_where prog_1_method_13_code 4 (some .int) 3 [zR (0, 0, 0), zI x, zI w] μ (whereW a (rK a) x w) := by
  obtain ⟨⟨g0, g1, g2⟩, gS, gP, gA, gT, gD, gM⟩ := h
  generalize rK a = mk at hk hk6 hg gM ⊢
  have ht : (0 : Nat) < 4 := by omega
  refine zCt.of "DyeTank" rfl (by decide +kernel) rfl (Nat.le_of_ble_eq_true rfl) (fun K hR => ?_)
  have v0 := zv_0
  have v1 := zv_1
  have v2 := zv_2
  have v3 := zv_3
  have v4 := zv_4
  have v5 := zv_5 0 ht
  have v12 := zv_12 0 ht
  have hiff : (0 ≤ x ∧ x < nI mk) ↔ (0 ≤ x ∧ x ≤ nI mk - 1) := by
    constructor
    · intro q
      obtain ⟨m, hm, e⟩ := (rngS (by omega)).mp q
      exact (rngP (by omega) (by omega)).mpr ⟨m, hm, e⟩
    · intro q
      exact (rngS (by omega)).mpr (rngQ (by omega) q)
  refine z_ls (ls' := [zR (0, 0, 0), zI x, zI w, zN]) rfl ?_
  refine z_aload_n dX3_where_0 rfl rfl ?_
  refine zg_X3_tank dX3_where_1 tw_162 ?_
  refine z_iload_n dX3_where_4 rfl rfl ?_
  refine z_cVi (c_hasMarker μ 0 ht _) q_X2_hasMarker tw_396 dX3_where_5 rfl rfl rfl (by omega) (Nat.le_of_ble_eq_true rfl) ?_
  rw [g2, hk]
  refine z_bne (tgt := 13) dX3_where_8 (by decide) (fun h => ?_) (fun h => ?_)
  · have h' := hiff.mp h
    obtain ⟨m, hm, e⟩ := rngQ (by omega) h'
    have er : x.toNatClampNeg = m := by rw [e]; exact nI_clamp (by omega)
    have eW : ∀ w, whereW a mk x w = _ := fun w => if_pos h'
    rw [er] at eW
    subst e
    have v13 := zv_13 0 ht m (by omega)
    obtain ⟨m0, m1, m2, m3, m4, mp⟩ := gM m hm
    obtain ⟨g, hg1, eg⟩ := hg m hm
    refine z_aload_n dX3_where_13 rfl rfl ?_
    refine zg_X3_tank dX3_where_14 tw_162 ?_
    refine zg_X2_markers dX3_where_17 tw_88 ?_
    refine z_iload_n dX3_where_20 rfl rfl ?_
    refine z_ald12 dX3_where_21 rfl (show m < 6 by omega) ?_
    refine z_astS_n dX3_where_22 rfl (by decide) rfl ?_
    refine z_iload_n dX3_where_23 rfl rfl ?_
    rcases sw4 w with hsw | hsw | hsw | hsw | hsw | hsw
    · subst hsw
      refine z_tabIn (tgt := 60) (off := 36) dX3_where_24 (by decide) (by decide) rfl (by decide) ?_
      refine z_aload_n dX3_where_60 rfl rfl ?_
      refine zg_X0_place dX3_where_61 tw_33 ?_
      refine z_iret hR dX3_where_64 (⟨rfl, by rw [eW, m0]; rfl⟩)
    · subst hsw
      refine z_tabIn (tgt := 65) (off := 41) dX3_where_24 (by decide) (by decide) rfl (by decide) ?_
      refine z_aload_n dX3_where_65 rfl rfl ?_
      refine zg_X0_angle dX3_where_66 tw_35 ?_
      refine z_iret hR dX3_where_69 (⟨rfl, by rw [eW, m1]; rfl⟩)
    · subst hsw
      refine z_tabIn (tgt := 70) (off := 46) dX3_where_24 (by decide) (by decide) rfl (by decide) ?_
      refine z_aload_n dX3_where_70 rfl rfl ?_
      refine z_cVi (c_ringNow μ 0 m ht (by omega)) q_X0_ringNow tw_400 dX3_where_71 rfl rfl rfl (by omega) (Nat.le_of_ble_eq_true rfl) ?_
      refine z_iret hR dX3_where_74 (⟨rfl, by rw [eW, m0]; rfl⟩)
    · subst hsw
      refine z_tabIn (tgt := 75) (off := 51) dX3_where_24 (by decide) (by decide) rfl (by decide) ?_
      refine z_aload_n dX3_where_75 rfl rfl ?_
      refine zg_X0_kept dX3_where_76 tw_37 ?_
      refine z_iret hR dX3_where_79 (⟨rfl, by rw [eW, m2, eg, nI_clamp (by omega), ← kep_eq (show g < 2 ^ 31 by omega)]; rfl⟩)
    · subst hsw
      refine z_tabIn (tgt := 80) (off := 56) dX3_where_24 (by decide) (by decide) rfl (by decide) ?_
      refine z_aload_n dX3_where_80 rfl rfl ?_
      refine zg_X0_crossings dX3_where_81 tw_39 ?_
      refine z_iret hR dX3_where_84 (⟨rfl, by rw [eW, m3]; rfl⟩)
    · refine z_tabOut (tgt := 85) dX3_where_24 hsw (by decide) ?_
      refine z_bipush (v := -2) dX3_where_85 (by decide) ?_
      refine z_iret hR dX3_where_87 (⟨rfl, by rw [eW, sw4_d hsw]⟩)
  · refine z_iconst (v := -1) dX3_where_11 (by decide) ?_
    refine z_iret hR dX3_where_12 (⟨rfl, congrArg zI (if_neg (fun q => h (hiff.mpr q))).symm⟩)
theorem x_path (μ : zM) (a : Nat → Int32) (h : Rep μ 0 a) (hk : a 33 = nI (rK a)) (hk6 : rK a ≤ 6) (hg : ∀ m, m < rK a → ∃ g, g < 2 ^ 30 ∧ a (36 + 104 * m) = nI g) (x b w : Int32) : zCi yX3_path prog_1_method_14_code 5 (some .int) 4 [zR (0, 0, 0), zI x, zI b, zI w] μ (pathW a (rK a) x b w) := by
  obtain ⟨⟨g0, g1, g2⟩, gS, gP, gA, gT, gD, gM⟩ := h
  generalize rK a = mk at hk hk6 hg gM ⊢
  have ht : (0 : Nat) < 4 := by omega
  refine zCt.of "DyeTank" rfl (by decide +kernel) rfl (Nat.le_of_ble_eq_true rfl) (fun K hR => ?_)
  have v0 := zv_0
  have v1 := zv_1
  have v2 := zv_2
  have v3 := zv_3
  have v4 := zv_4
  have v5 := zv_5 0 ht
  have v12 := zv_12 0 ht
  have hiff : (0 ≤ x ∧ x < nI mk) ↔ (0 ≤ x ∧ x ≤ nI mk - 1) := by
    constructor
    · intro q
      obtain ⟨m, hm, e⟩ := (rngS (by omega)).mp q
      exact (rngP (by omega) (by omega)).mpr ⟨m, hm, e⟩
    · intro q
      exact (rngS (by omega)).mpr (rngQ (by omega) q)
  refine z_ls (ls' := [zR (0, 0, 0), zI x, zI b, zI w, zN]) rfl ?_
  refine z_aload_n dX3_path_0 rfl rfl ?_
  refine zg_X3_tank dX3_path_1 tw_162 ?_
  refine z_iload_n dX3_path_4 rfl rfl ?_
  refine z_cVi (c_hasMarker μ 0 ht _) q_X2_hasMarker tw_396 dX3_path_5 rfl rfl rfl (by omega) (Nat.le_of_ble_eq_true rfl) ?_
  rw [g2, hk]
  refine z_bne (tgt := 13) dX3_path_8 (by decide) (fun h => ?_) (fun h => ?_)
  · have h' := hiff.mp h
    obtain ⟨m, hm, e⟩ := rngQ (by omega) h'
    have er : x.toNatClampNeg = m := by rw [e]; exact nI_clamp (by omega)
    have eW : pathW a mk x b w = _ := if_pos h'
    rw [er] at eW
    subst e
    have v13 := zv_13 0 ht m (by omega)
    obtain ⟨m0, m1, m2, m3, m4, mp⟩ := gM m hm
    obtain ⟨g, hg1, eg⟩ := hg m hm
    rw [eg, nI_clamp (by omega)] at m2 m4 mp eW
    refine z_iload_n dX3_path_13 rfl rfl ?_
    refine z_iconst (v := 0) dX3_path_14 (by decide) ?_
    refine z_iconst (v := 1) dX3_path_15 (by decide) ?_
    refine z_cSi (c_within μ _ _ _) q_X3_within tw_182 dX3_path_16 rfl rfl (by omega) (Nat.le_of_ble_eq_true rfl) ?_
    refine z_bne (tgt := 25) dX3_path_19 (by decide) (fun h2 => ?_) (fun h2 => ?_)
    · refine z_aload_n dX3_path_25 rfl rfl ?_
      refine zg_X3_tank dX3_path_26 tw_162 ?_
      refine zg_X2_markers dX3_path_29 tw_88 ?_
      refine z_iload_n dX3_path_32 rfl rfl ?_
      refine z_ald12 dX3_path_33 rfl (show m < 6 by omega) ?_
      refine z_astS dX3_path_34 (by decide) rfl ?_
      refine z_iload_n dX3_path_36 rfl rfl ?_
      refine z_iconst (v := 0) dX3_path_37 (by decide) ?_
      refine z_aload dX3_path_38 rfl ?_
      refine zg_X0_kept dX3_path_40 tw_37 ?_
      refine z_top ((show _ = nI (kepN g) from m2)) ?_
      refine z_iconst (v := 1) dX3_path_43 (by decide) ?_
      refine z_isub dX3_path_44 ?_
      refine z_cSi (c_within μ _ _ _) q_X3_within tw_182 dX3_path_45 rfl rfl (by omega) (Nat.le_of_ble_eq_true rfl) ?_
      refine z_bne (tgt := 54) dX3_path_48 (by decide) (fun h3 => ?_) (fun h3 => ?_)
      · have hkb : kepN g ≤ 50 ∧ kepN g ≤ g := by unfold kepN; split <;> omega
        obtain ⟨q, hq, eb⟩ := rngQ (n := kepN g) (by omega) h3
        obtain ⟨j, hj, ew⟩ : ∃ j : Nat, j < 2 ∧ w = nI j := (rngP (n := 2) (by omega) (by omega)).mp h2
        have eq1 : b.toNatClampNeg = q := by rw [eb]; exact nI_clamp (by omega)
        have ew1 : w.toNatClampNeg = j := by rw [ew]; exact nI_clamp (by omega)
        rw [if_pos h2, if_pos h3, eq1, ew1] at eW
        subst eb
        have hix : (g % 50 + 49 - q) % 50 = (g - 1 - q) % 50 := by omega
        have hin : (g - 1 - q) % 50 < kepN g := by
          unfold kepN at hq ⊢
          split
          · rename_i h50
            rw [if_pos h50] at hq
            omega
          · omega
        obtain ⟨p1, p2⟩ := mp _ hin
        refine z_iload_n dX3_path_54 rfl rfl ?_
        rcases (show j = 0 ∨ j = 1 by omega) with e0 | e0 <;> subst e0 <;> subst ew
        · refine z_if_ne (tgt := 67) dX3_path_55 (by decide) (fun h9 => absurd h9 (Decidable.not_not.mpr rfl)) (fun _ => ?_)
          refine z_aload dX3_path_58 rfl ?_
          refine z_iload_n dX3_path_60 rfl rfl ?_
          refine z_cVi (c_placeBack μ 0 m (g % 50) q ht (by omega) m4 (Nat.mod_lt _ (by omega)) (by omega)) q_X0_placeBack tw_405 dX3_path_61 rfl rfl rfl (by omega) (Nat.le_of_ble_eq_true rfl) ?_
          refine z_goto (tgt := 73) dX3_path_64 (by decide) ?_
          refine z_iret hR dX3_path_73 (⟨rfl, by rw [eW, hix, p1]; rfl⟩)
        · refine z_if_ne (tgt := 67) dX3_path_55 (by decide) (fun _ => ?_) (fun h9 => absurd h9 (by decide))
          refine z_aload dX3_path_67 rfl ?_
          refine z_iload_n dX3_path_69 rfl rfl ?_
          refine z_cVi (c_angleBack μ 0 m (g % 50) q ht (by omega) m4 (Nat.mod_lt _ (by omega)) (by omega)) q_X0_angleBack tw_409 dX3_path_70 rfl rfl rfl (by omega) (Nat.le_of_ble_eq_true rfl) ?_
          refine z_iret hR dX3_path_73 (⟨rfl, by rw [eW, hix, p2]; congr 2; omega⟩)
      · refine z_bipush (v := -6) dX3_path_51 (by decide) ?_
        refine z_iret hR dX3_path_53 (⟨rfl, by rw [eW, if_pos h2, if_neg h3]⟩)
    · refine z_bipush (v := -2) dX3_path_22 (by decide) ?_
      refine z_iret hR dX3_path_24 (⟨rfl, by rw [eW, if_neg h2]⟩)
  · refine z_iconst (v := -1) dX3_path_11 (by decide) ?_
    refine z_iret hR dX3_path_12 (⟨rfl, congrArg zI (if_neg (fun q => h (hiff.mpr q))).symm⟩)
