/-! the reference's calls that tick and read -/
def itF : Nat → (Nat → Int32) → Nat → Int32
  | 0, a => a
  | k + 1, a => tickF (itF k a)
theorem sw_no {x : Int32} {N k : Nat} (h : x.toInt < 0 ∨ (N : Int) < x.toInt) (hk : k ≤ N) (hN : N < 2 ^ 31 := by decide) : ¬ x = nI k := by
  intro e
  rw [e, nI_toInt (by omega)] at h
  omega
theorem sw4_d {α : Type} {w : Int32} {a0 a1 a2 a3 a4 d : α} (h : w.toInt < 0 ∨ 4 < w.toInt) : (if w = 0 then a0 else if w = 1 then a1 else if w = 2 then a2 else if w = 3 then a3 else if w = 4 then a4 else d) = d := by
  rw [if_neg (show ¬ w = 0 from sw_no (N := 4) (k := 0) h (by decide)), if_neg (show ¬ w = 1 from sw_no (N := 4) (k := 1) h (by decide)), if_neg (show ¬ w = 2 from sw_no (N := 4) (k := 2) h (by decide)), if_neg (show ¬ w = 3 from sw_no (N := 4) (k := 3) h (by decide)), if_neg (show ¬ w = 4 from sw_no (N := 4) (k := 4) h (by decide))]
theorem sw5_d {α : Type} {w : Int32} {a0 a1 a2 a3 a4 a5 d : α} (h : w.toInt < 0 ∨ 5 < w.toInt) : (if w = 0 then a0 else if w = 1 then a1 else if w = 2 then a2 else if w = 3 then a3 else if w = 4 then a4 else if w = 5 then a5 else d) = d := by
  rw [if_neg (show ¬ w = 0 from sw_no (N := 5) (k := 0) h (by decide)), if_neg (show ¬ w = 1 from sw_no (N := 5) (k := 1) h (by decide)), if_neg (show ¬ w = 2 from sw_no (N := 5) (k := 2) h (by decide)), if_neg (show ¬ w = 3 from sw_no (N := 5) (k := 3) h (by decide)), if_neg (show ¬ w = 4 from sw_no (N := 5) (k := 4) h (by decide)), if_neg (show ¬ w = 5 from sw_no (N := 5) (k := 5) h (by decide))]
theorem sw6_d {α : Type} {w : Int32} {a0 a1 a2 a3 a4 a5 a6 d : α} (h : w.toInt < 0 ∨ 6 < w.toInt) : (if w = 0 then a0 else if w = 1 then a1 else if w = 2 then a2 else if w = 3 then a3 else if w = 4 then a4 else if w = 5 then a5 else if w = 6 then a6 else d) = d := by
  rw [if_neg (show ¬ w = 0 from sw_no (N := 6) (k := 0) h (by decide)), if_neg (show ¬ w = 1 from sw_no (N := 6) (k := 1) h (by decide)), if_neg (show ¬ w = 2 from sw_no (N := 6) (k := 2) h (by decide)), if_neg (show ¬ w = 3 from sw_no (N := 6) (k := 3) h (by decide)), if_neg (show ¬ w = 4 from sw_no (N := 6) (k := 4) h (by decide)), if_neg (show ¬ w = 5 from sw_no (N := 6) (k := 5) h (by decide)), if_neg (show ¬ w = 6 from sw_no (N := 6) (k := 6) h (by decide))]
theorem m_tick (μ : zM) (hW : ∀ k, k ≤ 1000 → Wf (itF k (μ (21, 0, 0)))) (x : Int32) : zCs yX4_tick prog_6_method_30_code 3 (some .int) 6 [zR (20, 0, 0), zI x] μ (fun μ' w => (¬ (1 ≤ x ∧ x ≤ 1000) ∧ w = -2 ∧ μ' = μ) ∨ ((1 ≤ x ∧ x ≤ 1000) ∧ ¬ μ (21, 0, 0) 1 + x ≤ 100000 ∧ w = -5 ∧ μ' = μ) ∨ ((1 ≤ x ∧ x ≤ 1000) ∧ μ (21, 0, 0) 1 + x ≤ 100000 ∧ ∃ T : Nat, T ≤ 1000 ∧ x = nI T ∧ w = μ' (21, 0, 0) 1 ∧ zoff [(21, 0, 0), (25, 0, 0), (26, 0, 0)] μ μ' ∧ μ' (21, 0, 0) = itF T (μ (21, 0, 0)))) := by
  refine zCt.of "DyeTankModel" rfl (by decide +kernel) rfl (Nat.le_of_ble_eq_true rfl) (fun K hR => ?_)
  have v20 := zv_20
  have v21 := zv_21
  have v22 := zv_22
  have v23 := zv_23
  have v24 := zv_24
  have v25 := zv_25
  have v26 := zv_26
  have v27 := zv_27
  have v28 := zv_28
  refine z_ls (ls' := [zR (20, 0, 0), zI x, zN]) rfl ?_
  refine z_iload_n dX4_tick_0 rfl rfl ?_
  refine z_iconst (v := 1) dX4_tick_1 (by decide) ?_
  refine z_sipush (v := 1000) dX4_tick_2 (by decide) ?_
  refine z_cSi (c_in μ _ _ _) q_X4_in tw_593 dX4_tick_5 rfl rfl (by omega) (Nat.le_of_ble_eq_true rfl) ?_
  refine z_bne (tgt := 14) dX4_tick_8 (by decide) (fun h => ?_) (fun h => ?_)
  · refine z_aload_n dX4_tick_14 rfl rfl ?_
    refine zg_X4_at dX4_tick_15 tw_552 ?_
    refine z_iconst (v := 1) dX4_tick_18 (by decide) ?_
    refine z_iald dX4_tick_19 (fun _ _ => rfl) rfl (i := 1) (by decide) ?_
    refine z_iload_n dX4_tick_20 rfl rfl ?_
    refine z_iadd dX4_tick_21 ?_
    refine z_ldc (v := 100000) dX4_tick_22 tw_663 ?_
    refine z_icmp_le (tgt := 30) dX4_tick_24 (by decide) (fun h2 => ?_) (fun h2 => ?_)
    · obtain ⟨T, hT, e⟩ : ∃ T : Nat, T < 1001 ∧ x = nI T := (rngS (by omega)).mp ⟨Int32.le_trans (by decide) h.1, Int32.lt_of_le_of_lt h.2 (by decide)⟩
      have loop : ∀ (f i : Nat) (μ' : zM), i ≤ T → T < i + f → zoff [(21, 0, 0), (25, 0, 0), (26, 0, 0)] μ μ' → μ' (21, 0, 0) = itF i (μ (21, 0, 0)) → Z K 6 "DyeTankModel" prog_6_method_30_code 3 32 [zR (20, 0, 0), zI x, zI (nI i)] [] μ' := by
        intro f
        induction f with
        | zero => intro i μ' h1 h2 h3 h4; exact absurd ‹_ < _ + 0› (by omega)
        | succ f ih =>
          intro i μ' h3 h4 ho ei
          refine z_iload_n dX4_tick_32 rfl rfl ?_
          refine z_iload_n dX4_tick_33 rfl rfl ?_
          rw [e]
          refine z_icmp_ge (tgt := 47) dX4_tick_34 (by decide) (fun hb => ?_) (fun hb => ?_)
          · have hb := nle hb
            have e9 : i = T := by omega
            subst e9
            refine z_aload_n dX4_tick_47 rfl rfl ?_
            refine zg_X4_at dX4_tick_48 tw_552 ?_
            refine z_iconst (v := 1) dX4_tick_51 (by decide) ?_
            refine z_iald dX4_tick_52 (fun _ _ => rfl) rfl (i := 1) (by decide) ?_
            refine z_iret hR dX4_tick_53 (⟨_, rfl, Or.inr (Or.inr ⟨h, h2, i, by omega, e, rfl, ho, ei⟩)⟩)
          · have hb := nnle hb
            refine z_aload_n dX4_tick_37 rfl rfl ?_
            refine z_cVv (m_tickW μ' (by rw [ei]; exact hW i (by omega))) q_X4_makeTick tw_664 dX4_tick_38 rfl rfl rfl (by omega) (Nat.le_of_ble_eq_true rfl) (fun μ2 hh => ?_)
            obtain ⟨o2, t2⟩ := hh
            refine z_incS dX4_tick_41 rfl (inc1 _) (by decide) rfl ?_
            refine z_goto (tgt := 32) dX4_tick_44 (by decide) ?_
            rw [← e]
            refine ih (i + 1) μ2 (by omega) (by omega) (zoff.tr ho o2 (by simp)) ?_
            rw [TKR_eq t2, ei]
            rfl
      refine z_iconst (v := 0) dX4_tick_30 (by decide) ?_
      refine z_istS_n dX4_tick_31 rfl (by decide) rfl ?_
      exact loop (T + 1) 0 μ (by omega) (by omega) zoff.rf rfl
    · refine z_bipush (v := -5) dX4_tick_27 (by decide) ?_
      refine z_iret hR dX4_tick_29 (⟨_, rfl, Or.inr (Or.inl ⟨h, h2, rfl, rfl⟩)⟩)
  · refine z_bipush (v := -2) dX4_tick_11 (by decide) ?_
    refine z_iret hR dX4_tick_13 (⟨_, rfl, Or.inl ⟨h, rfl, rfl⟩⟩)
def ringW (a : Nat → Int32) (n : Nat) (x w : Int32) : Int32 :=
  if 0 ≤ x ∧ x ≤ nI n - 1 then
    if w = 0 then vel (aP a) x.toNatClampNeg else if w = 1 then a (9 + x.toNatClampNeg) else if w = 2 then a (21 + x.toNatClampNeg)
    else if w = 3 then psh (aS a) (aP a) x.toNatClampNeg else if w = 4 then ringS (aD a 0) x.toNatClampNeg
    else if w = 5 then ringS (aD a 1) x.toNatClampNeg else if w = 6 then ringS (aD a 2) x.toNatClampNeg else -1000000002
  else -1000000001
theorem m_ring (μ : zM) (n : Nat) (hn : μ (21, 0, 0) 0 = nI n) (hn2 : 2 ≤ n) (hn12 : n ≤ 12) (x w : Int32) : zCi yX4_ring prog_6_method_31_code 3 (some .int) 4 [zR (20, 0, 0), zI x, zI w] μ (ringW (μ (21, 0, 0)) n x w) := by
  refine zCt.of "DyeTankModel" rfl (by decide +kernel) rfl (Nat.le_of_ble_eq_true rfl) (fun K hR => ?_)
  have v20 := zv_20
  have v21 := zv_21
  have v22 := zv_22
  have v23 := zv_23
  have v24 := zv_24
  have v25 := zv_25
  have v26 := zv_26
  have v27 := zv_27
  have v28 := zv_28
  refine z_ls (ls' := [zR (20, 0, 0), zI x, zI w]) rfl ?_
  refine z_aload_n dX4_ring_0 rfl rfl ?_
  refine z_iload_n dX4_ring_1 rfl rfl ?_
  refine z_cVi (m_isRing μ _) q_X4_isRing tw_608 dX4_ring_2 rfl rfl rfl (by omega) (Nat.le_of_ble_eq_true rfl) ?_
  refine z_bne (tgt := 11) dX4_ring_5 (by decide) (fun h => ?_) (fun h => ?_)
  · rw [hn] at h
    obtain ⟨r, hr, e⟩ := (rngP (by omega) (by omega)).mp h
    have er : x.toNatClampNeg = r := by rw [e]; exact nI_clamp (by omega)
    have eW : ∀ w, ringW (μ (21, 0, 0)) n x w = _ := fun w => if_pos h
    rw [er] at eW
    subst e
    refine z_iload_n dX4_ring_11 rfl rfl ?_
    rcases sw6 w with hsw | hsw | hsw | hsw | hsw | hsw | hsw | hsw
    · subst hsw
      refine z_tabIn (tgt := 56) (off := 44) dX4_ring_12 (by decide) (by decide) rfl (by decide) ?_
      refine z_aload_n dX4_ring_56 rfl rfl ?_
      refine z_iload_n dX4_ring_57 rfl rfl ?_
      refine z_cVi (m_velocity μ r (by omega)) q_X4_velocity tw_616 dX4_ring_58 rfl rfl rfl (by omega) (Nat.le_of_ble_eq_true rfl) ?_
      refine z_iret hR dX4_ring_61 (⟨rfl, by rw [eW]; rfl⟩)
    · subst hsw
      refine z_tabIn (tgt := 62) (off := 50) dX4_ring_12 (by decide) (by decide) rfl (by decide) ?_
      refine z_aload_n dX4_ring_62 rfl rfl ?_
      refine zg_X4_at dX4_ring_63 tw_552 ?_
      refine z_bipush (v := 9) dX4_ring_66 (by decide) ?_
      refine z_iload_n dX4_ring_68 rfl rfl ?_
      refine z_iadd dX4_ring_69 ?_
      refine z_iald dX4_ring_70 (fun _ _ => rfl) (nI_add 9 r) (show 9 + r < 2386 by omega) ?_
      refine z_iret hR dX4_ring_71 (⟨rfl, by rw [eW]; rfl⟩)
    · subst hsw
      refine z_tabIn (tgt := 72) (off := 60) dX4_ring_12 (by decide) (by decide) rfl (by decide) ?_
      refine z_aload_n dX4_ring_72 rfl rfl ?_
      refine zg_X4_at dX4_ring_73 tw_552 ?_
      refine z_bipush (v := 21) dX4_ring_76 (by decide) ?_
      refine z_iload_n dX4_ring_78 rfl rfl ?_
      refine z_iadd dX4_ring_79 ?_
      refine z_iald dX4_ring_80 (fun _ _ => rfl) (nI_add 21 r) (show 21 + r < 2386 by omega) ?_
      refine z_iret hR dX4_ring_81 (⟨rfl, by rw [eW]; rfl⟩)
    · subst hsw
      refine z_tabIn (tgt := 82) (off := 70) dX4_ring_12 (by decide) (by decide) rfl (by decide) ?_
      refine z_aload_n dX4_ring_82 rfl rfl ?_
      refine z_iload_n dX4_ring_83 rfl rfl ?_
      refine z_cVi (m_push μ r (by omega)) q_X4_push tw_676 dX4_ring_84 rfl rfl rfl (by omega) (Nat.le_of_ble_eq_true rfl) ?_
      refine z_iret hR dX4_ring_87 (⟨rfl, by rw [eW]; rfl⟩)
    · subst hsw
      refine z_tabIn (tgt := 88) (off := 76) dX4_ring_12 (by decide) (by decide) rfl (by decide) ?_
      refine z_aload_n dX4_ring_88 rfl rfl ?_
      refine z_iload_n dX4_ring_89 rfl rfl ?_
      refine z_iconst (v := 4) dX4_ring_90 (by decide) ?_
      refine z_isub dX4_ring_91 ?_
      refine z_iconst (v := 0) dX4_ring_92 (by decide) ?_
      refine z_iload_n dX4_ring_93 rfl rfl ?_
      refine z_iload_n dX4_ring_94 rfl rfl ?_
      refine z_cVi (m_amountOf μ 0 0 r r (by decide) (by decide) (by omega) (by omega)) q_X4_amountOf tw_644 dX4_ring_95 rfl rfl rfl (by omega) (Nat.le_of_ble_eq_true rfl) ?_
      refine z_top ((sm_one _ r)) ?_
      refine z_aload_n dX4_ring_98 rfl rfl ?_
      refine z_iload_n dX4_ring_99 rfl rfl ?_
      refine z_iconst (v := 4) dX4_ring_100 (by decide) ?_
      refine z_isub dX4_ring_101 ?_
      refine z_iconst (v := 1) dX4_ring_102 (by decide) ?_
      refine z_iload_n dX4_ring_103 rfl rfl ?_
      refine z_iload_n dX4_ring_104 rfl rfl ?_
      refine z_cVi (m_amountOf μ 0 1 r r (by decide) (by decide) (by omega) (by omega)) q_X4_amountOf tw_644 dX4_ring_105 rfl rfl rfl (by omega) (Nat.le_of_ble_eq_true rfl) ?_
      refine z_top ((sm_one _ r)) ?_
      refine z_iadd dX4_ring_108 ?_
      refine z_iret hR dX4_ring_109 (⟨rfl, by rw [eW]; rfl⟩)
    · subst hsw
      refine z_tabIn (tgt := 88) (off := 76) dX4_ring_12 (by decide) (by decide) rfl (by decide) ?_
      refine z_aload_n dX4_ring_88 rfl rfl ?_
      refine z_iload_n dX4_ring_89 rfl rfl ?_
      refine z_iconst (v := 4) dX4_ring_90 (by decide) ?_
      refine z_isub dX4_ring_91 ?_
      refine z_iconst (v := 0) dX4_ring_92 (by decide) ?_
      refine z_iload_n dX4_ring_93 rfl rfl ?_
      refine z_iload_n dX4_ring_94 rfl rfl ?_
      refine z_cVi (m_amountOf μ 1 0 r r (by decide) (by decide) (by omega) (by omega)) q_X4_amountOf tw_644 dX4_ring_95 rfl rfl rfl (by omega) (Nat.le_of_ble_eq_true rfl) ?_
      refine z_top ((sm_one _ r)) ?_
      refine z_aload_n dX4_ring_98 rfl rfl ?_
      refine z_iload_n dX4_ring_99 rfl rfl ?_
      refine z_iconst (v := 4) dX4_ring_100 (by decide) ?_
      refine z_isub dX4_ring_101 ?_
      refine z_iconst (v := 1) dX4_ring_102 (by decide) ?_
      refine z_iload_n dX4_ring_103 rfl rfl ?_
      refine z_iload_n dX4_ring_104 rfl rfl ?_
      refine z_cVi (m_amountOf μ 1 1 r r (by decide) (by decide) (by omega) (by omega)) q_X4_amountOf tw_644 dX4_ring_105 rfl rfl rfl (by omega) (Nat.le_of_ble_eq_true rfl) ?_
      refine z_top ((sm_one _ r)) ?_
      refine z_iadd dX4_ring_108 ?_
      refine z_iret hR dX4_ring_109 (⟨rfl, by rw [eW]; rfl⟩)
    · subst hsw
      refine z_tabIn (tgt := 88) (off := 76) dX4_ring_12 (by decide) (by decide) rfl (by decide) ?_
      refine z_aload_n dX4_ring_88 rfl rfl ?_
      refine z_iload_n dX4_ring_89 rfl rfl ?_
      refine z_iconst (v := 4) dX4_ring_90 (by decide) ?_
      refine z_isub dX4_ring_91 ?_
      refine z_iconst (v := 0) dX4_ring_92 (by decide) ?_
      refine z_iload_n dX4_ring_93 rfl rfl ?_
      refine z_iload_n dX4_ring_94 rfl rfl ?_
      refine z_cVi (m_amountOf μ 2 0 r r (by decide) (by decide) (by omega) (by omega)) q_X4_amountOf tw_644 dX4_ring_95 rfl rfl rfl (by omega) (Nat.le_of_ble_eq_true rfl) ?_
      refine z_top ((sm_one _ r)) ?_
      refine z_aload_n dX4_ring_98 rfl rfl ?_
      refine z_iload_n dX4_ring_99 rfl rfl ?_
      refine z_iconst (v := 4) dX4_ring_100 (by decide) ?_
      refine z_isub dX4_ring_101 ?_
      refine z_iconst (v := 1) dX4_ring_102 (by decide) ?_
      refine z_iload_n dX4_ring_103 rfl rfl ?_
      refine z_iload_n dX4_ring_104 rfl rfl ?_
      refine z_cVi (m_amountOf μ 2 1 r r (by decide) (by decide) (by omega) (by omega)) q_X4_amountOf tw_644 dX4_ring_105 rfl rfl rfl (by omega) (Nat.le_of_ble_eq_true rfl) ?_
      refine z_top ((sm_one _ r)) ?_
      refine z_iadd dX4_ring_108 ?_
      refine z_iret hR dX4_ring_109 (⟨rfl, by rw [eW]; rfl⟩)
    · refine z_tabOut (tgt := 110) dX4_ring_12 hsw (by decide) ?_
      refine z_ldc (v := -1000000002) dX4_ring_110 tw_603 ?_
      refine z_iret hR dX4_ring_112 (⟨rfl, by rw [eW, sw6_d hsw]⟩)
  · rw [hn] at h
    refine z_ldc (v := -1000000001) dX4_ring_8 tw_612 ?_
    refine z_iret hR dX4_ring_10 (⟨rfl, congrArg zI (if_neg h).symm⟩)
def dyeW (a : Nat → Int32) (n : Nat) (c L r s : Int32) : Int32 :=
  if isPl n c L r s then a (dix c.toNatClampNeg L.toNatClampNeg r.toNatClampNeg (cel a r.toNatClampNeg s)) else -1
theorem m_dye (μ : zM) (n : Nat) (hn : μ (21, 0, 0) 0 = nI n) (hn2 : 2 ≤ n) (hn12 : n ≤ 12) (c L r s : Int32) : zCi yX4_dye prog_6_method_32_code 5 (some .int) 4 [zR (20, 0, 0), zI c, zI L, zI r, zI s] μ (dyeW (μ (21, 0, 0)) n c L r s) := by
  refine zCt.of "DyeTankModel" rfl (by decide +kernel) rfl (Nat.le_of_ble_eq_true rfl) (fun K hR => ?_)
  have v20 := zv_20
  have v21 := zv_21
  have v22 := zv_22
  have v23 := zv_23
  have v24 := zv_24
  have v25 := zv_25
  have v26 := zv_26
  have v27 := zv_27
  have v28 := zv_28
  refine z_ls (ls' := [zR (20, 0, 0), zI c, zI L, zI r, zI s]) rfl ?_
  refine z_aload_n dX4_dye_0 rfl rfl ?_
  refine z_iload_n dX4_dye_1 rfl rfl ?_
  refine z_iload_n dX4_dye_2 rfl rfl ?_
  refine z_iload_n dX4_dye_3 rfl rfl ?_
  refine z_iload dX4_dye_4 rfl ?_
  refine z_cVi (m_isPlace μ _ _ _ _) q_X4_isPlace tw_635 dX4_dye_6 rfl rfl rfl (by omega) (Nat.le_of_ble_eq_true rfl) ?_
  rw [hn]
  refine z_beq (tgt := 37) dX4_dye_9 (by decide) (fun h => ?_) (fun h => ?_)
  · refine z_iconst (v := -1) dX4_dye_37 (by decide) ?_
    refine z_iret hR dX4_dye_38 (⟨rfl, congrArg zI (if_neg h).symm⟩)
  · obtain ⟨c', L', r', h3, h4, h5, e1, e2, e3⟩ := isPl_ix (by omega) hn12 h
    have eW : dyeW (μ (21, 0, 0)) n c L r s = _ := if_pos h
    rw [show c.toNatClampNeg = c' by rw [e1]; exact nI_clamp (by omega), show L.toNatClampNeg = L' by rw [e2]; exact nI_clamp (by omega), show r.toNatClampNeg = r' by rw [e3]; exact nI_clamp (by omega)] at eW
    subst e1 e2 e3
    obtain ⟨hj, ej⟩ := cel_eq (μ (21, 0, 0)) r' s
    refine z_aload_n dX4_dye_12 rfl rfl ?_
    refine zg_X4_at dX4_dye_13 tw_552 ?_
    refine z_sipush (v := 658) dX4_dye_16 (by decide) ?_
    refine z_iload_n dX4_dye_19 rfl rfl ?_
    refine z_iload_n dX4_dye_20 rfl rfl ?_
    refine z_iload_n dX4_dye_21 rfl rfl ?_
    refine z_aload_n dX4_dye_22 rfl rfl ?_
    refine z_iload_n dX4_dye_23 rfl rfl ?_
    refine z_iload dX4_dye_24 rfl ?_
    refine z_cVi (m_cellIn μ r' (by omega) s) q_X4_cellIn tw_652 dX4_dye_26 rfl rfl rfl (by omega) (Nat.le_of_ble_eq_true rfl) ?_
    refine z_top (ej) ?_
    refine z_cSi (m_dyeAt μ c' L' r' _) q_X4_dyeAt tw_648 dX4_dye_29 rfl rfl (by omega) (Nat.le_of_ble_eq_true rfl) ?_
    refine z_iadd dX4_dye_32 ?_
    refine z_iald dX4_dye_33 (fun _ _ => rfl) (nI_add 658 _) (dix_lt h3 h4 (by omega) hj) ?_
    refine z_goto (tgt := 38) dX4_dye_34 (by decide) ?_
    refine z_iret hR dX4_dye_38 (⟨rfl, by rw [eW]; rfl⟩)
def colW (a : Nat → Int32) (n : Nat) (x w : Int32) : Int64 :=
  if 0 ≤ x ∧ x ≤ 2 then
    if w = 0 then (allA (aD a x.toNatClampNeg) n).toInt64 else if w = 1 then (sm (rowS (aD a x.toNatClampNeg) 0) n).toInt64
    else if w = 2 then (cnf (aD a x.toNatClampNeg) 576).toInt64 else if w = 3 then (mxf (aD a x.toNatClampNeg) 576).toInt64
    else if w = 4 then meanP (aD a x.toNatClampNeg) n (allA (aD a x.toNatClampNeg) n)
    else if w = 5 then unev (aD a x.toNatClampNeg) n (allA (aD a x.toNatClampNeg) n).toInt64 else -2
  else -1
theorem m_colour (μ : zM) (n : Nat) (hn : μ (21, 0, 0) 0 = nI n) (hn2 : 2 ≤ n) (hn12 : n ≤ 12) (x w : Int32) : zCl yX4_colour prog_6_method_38_code 3 (some .long) 5 [zR (20, 0, 0), zI x, zI w] μ (colW (μ (21, 0, 0)) n x w) := by
  refine zCt.of "DyeTankModel" rfl (by decide +kernel) rfl (Nat.le_of_ble_eq_true rfl) (fun K hR => ?_)
  have v20 := zv_20
  have v21 := zv_21
  have v22 := zv_22
  have v23 := zv_23
  have v24 := zv_24
  have v25 := zv_25
  have v26 := zv_26
  have v27 := zv_27
  have v28 := zv_28
  refine z_ls (ls' := [zR (20, 0, 0), zI x, zI w]) rfl ?_
  refine z_iload_n dX4_colour_0 rfl rfl ?_
  refine z_cSi (m_isColour μ _) q_X4_isColour tw_706 dX4_colour_1 rfl rfl (by omega) (Nat.le_of_ble_eq_true rfl) ?_
  refine z_bne (tgt := 11) dX4_colour_4 (by decide) (fun h => ?_) (fun h => ?_)
  · obtain ⟨c, hc, e⟩ : ∃ c : Nat, c < 3 ∧ x = nI c := (rngP (n := 3) (by omega) (by omega)).mp h
    have er : x.toNatClampNeg = c := by rw [e]; exact nI_clamp (by omega)
    have eW : ∀ w, colW (μ (21, 0, 0)) n x w = _ := fun w => if_pos h
    rw [er] at eW
    subst e
    refine z_iload_n dX4_colour_11 rfl rfl ?_
    rcases sw5 w with hsw | hsw | hsw | hsw | hsw | hsw | hsw
    · subst hsw
      refine z_tabIn (tgt := 52) (off := 40) dX4_colour_12 (by decide) (by decide) rfl (by decide) ?_
      refine z_aload_n dX4_colour_52 rfl rfl ?_
      refine z_iload_n dX4_colour_53 rfl rfl ?_
      refine z_cVi (m_allOf μ n hn hn2 hn12 c hc) q_X4_allOf tw_640 dX4_colour_54 rfl rfl rfl (by omega) (Nat.le_of_ble_eq_true rfl) ?_
      refine z_i2l dX4_colour_57 ?_
      refine z_lret hR dX4_colour_58 (⟨rfl, by rw [eW]; rfl⟩)
    · subst hsw
      refine z_tabIn (tgt := 59) (off := 47) dX4_colour_12 (by decide) (by decide) rfl (by decide) ?_
      refine z_aload_n dX4_colour_59 rfl rfl ?_
      refine z_iload_n dX4_colour_60 rfl rfl ?_
      refine z_iconst (v := 0) dX4_colour_61 (by decide) ?_
      refine z_iconst (v := 0) dX4_colour_62 (by decide) ?_
      refine z_aload_n dX4_colour_63 rfl rfl ?_
      refine zg_X4_at dX4_colour_64 tw_552 ?_
      refine z_iconst (v := 0) dX4_colour_67 (by decide) ?_
      refine z_iald dX4_colour_68 (fun _ _ => rfl) rfl (i := 0) (by decide) ?_
      refine z_iconst (v := 1) dX4_colour_69 (by decide) ?_
      refine z_isub dX4_colour_70 ?_
      refine z_top ((show μ (21, 0, 0) 0 - 1 = nI (n - 1) by rw [hn]; exact pk_sub (b := 1) (by omega))) ?_
      refine z_cVi (m_amountOf μ c 0 0 (n - 1) hc (by decide) (by omega) (by omega)) q_X4_amountOf tw_644 dX4_colour_71 rfl rfl rfl (by omega) (Nat.le_of_ble_eq_true rfl) ?_
      refine z_top ((sm_z _ (by omega))) ?_
      refine z_i2l dX4_colour_74 ?_
      refine z_lret hR dX4_colour_75 (⟨rfl, by rw [eW]; rfl⟩)
    · subst hsw
      refine z_tabIn (tgt := 76) (off := 64) dX4_colour_12 (by decide) (by decide) rfl (by decide) ?_
      refine z_aload_n dX4_colour_76 rfl rfl ?_
      refine z_iload_n dX4_colour_77 rfl rfl ?_
      refine z_cVi (m_cellsWith μ c hc) q_X4_cellsWith tw_710 dX4_colour_78 rfl rfl rfl (by omega) (Nat.le_of_ble_eq_true rfl) ?_
      refine z_i2l dX4_colour_81 ?_
      refine z_lret hR dX4_colour_82 (⟨rfl, by rw [eW]; rfl⟩)
    · subst hsw
      refine z_tabIn (tgt := 83) (off := 71) dX4_colour_12 (by decide) (by decide) rfl (by decide) ?_
      refine z_aload_n dX4_colour_83 rfl rfl ?_
      refine z_iload_n dX4_colour_84 rfl rfl ?_
      refine z_cVi (m_greatest μ c hc) q_X4_greatest tw_714 dX4_colour_85 rfl rfl rfl (by omega) (Nat.le_of_ble_eq_true rfl) ?_
      refine z_i2l dX4_colour_88 ?_
      refine z_lret hR dX4_colour_89 (⟨rfl, by rw [eW]; rfl⟩)
    · subst hsw
      refine z_tabIn (tgt := 90) (off := 78) dX4_colour_12 (by decide) (by decide) rfl (by decide) ?_
      refine z_aload_n dX4_colour_90 rfl rfl ?_
      refine z_iload_n dX4_colour_91 rfl rfl ?_
      refine z_cVl (m_meanPlace μ n hn hn2 hn12 c hc) q_X4_meanPlace tw_718 dX4_colour_92 rfl rfl rfl (by omega) (Nat.le_of_ble_eq_true rfl) ?_
      refine z_lret hR dX4_colour_95 (⟨rfl, by rw [eW]; rfl⟩)
    · subst hsw
      refine z_tabIn (tgt := 96) (off := 84) dX4_colour_12 (by decide) (by decide) rfl (by decide) ?_
      refine z_aload_n dX4_colour_96 rfl rfl ?_
      refine z_iload_n dX4_colour_97 rfl rfl ?_
      refine z_cVl (m_unevenness μ n hn hn2 hn12 c hc) q_X4_unevenness tw_723 dX4_colour_98 rfl rfl rfl (by omega) (Nat.le_of_ble_eq_true rfl) ?_
      refine z_lret hR dX4_colour_101 (⟨rfl, by rw [eW]; rfl⟩)
    · refine z_tabOut (tgt := 102) dX4_colour_12 hsw (by decide) ?_
      refine z_ldc2 (v := -2) dX4_colour_102 tw_728 ?_
      refine z_lret hR dX4_colour_105 (⟨rfl, by rw [eW, sw5_d hsw]⟩)
  · refine z_ldc2 (v := -1) dX4_colour_7 tw_709 ?_
    refine z_lret hR dX4_colour_10 (⟨rfl, congrArg zL (if_neg h).symm⟩)
def staW (a : Nat → Int32) (n : Nat) (pm w : Int32) : Int32 :=
  if 6 ≤ w ∧ w ≤ 12 then a (2 + (w.toNatClampNeg - 6)) else
    if w = 0 then a 1 else if w = 1 then a 0 else if w = 2 then a 33 else if w = 3 then sm (aP a) n
    else if w = 4 then mxf (fun r => absI (vel (aP a) r - vel (aP a) (r + 1))) (n - 1) else if w = 5 then pm else -1000000002
theorem m_state (μ : zM) (n : Nat) (hn : μ (21, 0, 0) 0 = nI n) (hn2 : 2 ≤ n) (hn12 : n ≤ 12) (w : Int32) : zCi yX4_state prog_6_method_40_code 2 (some .int) 4 [zR (20, 0, 0), zI w] μ (staW (μ (21, 0, 0)) n (μ (20, 0, 0) 7) w) := by
  refine zCt.of "DyeTankModel" rfl (by decide +kernel) rfl (Nat.le_of_ble_eq_true rfl) (fun K hR => ?_)
  have v20 := zv_20
  have v21 := zv_21
  have v22 := zv_22
  have v23 := zv_23
  have v24 := zv_24
  have v25 := zv_25
  have v26 := zv_26
  have v27 := zv_27
  have v28 := zv_28
  refine z_ls (ls' := [zR (20, 0, 0), zI w]) rfl ?_
  refine z_iload_n dX4_state_0 rfl rfl ?_
  refine z_bipush (v := 6) dX4_state_1 (by decide) ?_
  refine z_bipush (v := 12) dX4_state_3 (by decide) ?_
  refine z_cSi (c_in μ _ _ _) q_X4_in tw_593 dX4_state_5 rfl rfl (by omega) (Nat.le_of_ble_eq_true rfl) ?_
  refine z_beq (tgt := 23) dX4_state_8 (by decide) (fun h => ?_) (fun h => ?_)
  · have eW : staW (μ (21, 0, 0)) n (μ (20, 0, 0) 7) w = _ := if_neg h
    refine z_iload_n dX4_state_23 rfl rfl ?_
    rcases sw5 w with hsw | hsw | hsw | hsw | hsw | hsw | hsw
    · subst hsw
      refine z_tabIn (tgt := 64) (off := 40) dX4_state_24 (by decide) (by decide) rfl (by decide) ?_
      refine z_aload_n dX4_state_64 rfl rfl ?_
      refine zg_X4_at dX4_state_65 tw_552 ?_
      refine z_iconst (v := 1) dX4_state_68 (by decide) ?_
      refine z_iald dX4_state_69 (fun _ _ => rfl) rfl (i := 1) (by decide) ?_
      refine z_iret hR dX4_state_70 (⟨rfl, by rw [eW]; rfl⟩)
    · subst hsw
      refine z_tabIn (tgt := 71) (off := 47) dX4_state_24 (by decide) (by decide) rfl (by decide) ?_
      refine z_aload_n dX4_state_71 rfl rfl ?_
      refine zg_X4_at dX4_state_72 tw_552 ?_
      refine z_iconst (v := 0) dX4_state_75 (by decide) ?_
      refine z_iald dX4_state_76 (fun _ _ => rfl) rfl (i := 0) (by decide) ?_
      refine z_iret hR dX4_state_77 (⟨rfl, by rw [eW]; rfl⟩)
    · subst hsw
      refine z_tabIn (tgt := 78) (off := 54) dX4_state_24 (by decide) (by decide) rfl (by decide) ?_
      refine z_aload_n dX4_state_78 rfl rfl ?_
      refine zg_X4_at dX4_state_79 tw_552 ?_
      refine z_bipush (v := 33) dX4_state_82 (by decide) ?_
      refine z_iald dX4_state_84 (fun _ _ => rfl) rfl (i := 33) (by decide) ?_
      refine z_iret hR dX4_state_85 (⟨rfl, by rw [eW]; rfl⟩)
    · subst hsw
      refine z_tabIn (tgt := 86) (off := 62) dX4_state_24 (by decide) (by decide) rfl (by decide) ?_
      refine z_aload_n dX4_state_86 rfl rfl ?_
      refine z_cVi (m_momenta μ n hn hn12) q_X4_momenta tw_627 dX4_state_87 rfl rfl rfl (by omega) (Nat.le_of_ble_eq_true rfl) ?_
      refine z_iret hR dX4_state_90 (⟨rfl, by rw [eW]; rfl⟩)
    · subst hsw
      refine z_tabIn (tgt := 91) (off := 67) dX4_state_24 (by decide) (by decide) rfl (by decide) ?_
      refine z_aload_n dX4_state_91 rfl rfl ?_
      refine z_cVi (m_greatestShear μ n hn hn2 hn12) q_X4_greatestShear tw_733 dX4_state_92 rfl rfl rfl (by omega) (Nat.le_of_ble_eq_true rfl) ?_
      refine z_iret hR dX4_state_95 (⟨rfl, by rw [eW]; rfl⟩)
    · subst hsw
      refine z_tabIn (tgt := 96) (off := 72) dX4_state_24 (by decide) (by decide) rfl (by decide) ?_
      refine z_aload_n dX4_state_96 rfl rfl ?_
      refine zg_X4_padMany dX4_state_97 tw_559 ?_
      refine z_iret hR dX4_state_100 (⟨rfl, by rw [eW]; rfl⟩)
    · refine z_tabOut (tgt := 101) dX4_state_24 hsw (by decide) ?_
      refine z_ldc (v := -1000000002) dX4_state_101 tw_603 ?_
      refine z_iret hR dX4_state_103 (⟨rfl, by rw [eW, sw5_d hsw]⟩)
  · have eW : staW (μ (21, 0, 0)) n (μ (20, 0, 0) 7) w = _ := if_pos h
    obtain ⟨k, hk, e⟩ : ∃ k : Nat, k < 13 ∧ w = nI k := (rngS (by omega)).mp ⟨Int32.le_trans (by decide) h.1, Int32.lt_of_le_of_lt h.2 (by decide)⟩
    have h6 : 6 ≤ k := nle (a := 6) (by rw [← e]; exact h.1)
    rw [show w.toNatClampNeg = k by rw [e]; exact nI_clamp (by omega)] at eW
    refine z_aload_n dX4_state_11 rfl rfl ?_
    refine zg_X4_at dX4_state_12 tw_552 ?_
    refine z_iconst (v := 2) dX4_state_15 (by decide) ?_
    refine z_iload_n dX4_state_16 rfl rfl ?_
    refine z_iadd dX4_state_17 ?_
    refine z_bipush (v := 6) dX4_state_18 (by decide) ?_
    refine z_isub dX4_state_20 ?_
    refine z_iald dX4_state_21 (fun _ _ => rfl) (show 2 + w - 6 = nI (2 + (k - 6)) by rw [e]; show nI 2 + nI k - nI 6 = _; rw [nI_add, pk_sub (by omega)]; congr 1; omega) (show 2 + (k - 6) < 2386 by omega) ?_
    refine z_iret hR dX4_state_22 (⟨rfl, by rw [eW]⟩)
