/-! the reference's what-ifs -/
theorem itF_hi {a : Nat → Int32} (h6 : rK a ≤ 6) {k : Nat} (hk : 2386 ≤ k) : ∀ i, itF i a k = a k
  | 0 => rfl
  | i + 1 => by
    show tickF (itF i a) k = a k
    have e : rK (itF i a) = rK a := by unfold rK; rw [itF_lo a (by omega) (by omega)]
    unfold tickF
    rw [e, if_neg (by omega), if_neg (by omega)]
    unfold midA dyeA
    rw [show rg2 _ _ k = _ from if_neg (by omega), turnA_lo (by omega)]
    exact itF_hi h6 hk i
theorem m_settles (μ : zM) (n : Nat) (hn : μ (21, 0, 0) 0 = nI n) (hn2 : 2 ≤ n) (hn12 : n ≤ 12) (hW : ∀ k, k ≤ 1000 → Wf (itF k (μ (21, 0, 0)))) (b m : Int32) : zCs yX4_settles prog_6_method_51_code 3 (some .int) 7 [zR (20, 0, 0), zI b, zI m] μ (fun μ' w => (¬ ((0 ≤ b ∧ b ≤ 1000) ∧ (1 ≤ m ∧ m ≤ 1000)) ∧ w = -2 ∧ μ' = μ) ∨ (((0 ≤ b ∧ b ≤ 1000) ∧ (1 ≤ m ∧ m ≤ 1000)) ∧ ∃ M : Nat, M ≤ 1000 ∧ m = nI M ∧ FST (fun k => settB (itF k (μ (21, 0, 0))) n b) M w ∧ zoff [(21, 0, 0), (22, 0, 0), (25, 0, 0), (26, 0, 0)] μ μ' ∧ ∀ k, k < 2386 → μ' (21, 0, 0) k = μ (21, 0, 0) k)) := by
  refine zCt.of "DyeTankModel" rfl (by decide +kernel) rfl (Nat.le_of_ble_eq_true rfl) (fun K hR => ?_)
  have v20 := zv_20
  have v21 := zv_21
  have v22 := zv_22
  have v23 := zv_23
  have v24 := zv_24
  have v25 := zv_25
  have v26 := zv_26
  have v27 := zv_27
  have v28 := zv_28
  refine z_ls (ls' := [zR (20, 0, 0), zI b, zI m]) rfl ?_
  refine z_iload_n dX4_settles_0 rfl rfl ?_
  refine z_iconst (v := 0) dX4_settles_1 (by decide) ?_
  refine z_sipush (v := 1000) dX4_settles_2 (by decide) ?_
  refine z_cSi (c_in μ _ _ _) q_X4_in tw_593 dX4_settles_5 rfl rfl (by omega) (Nat.le_of_ble_eq_true rfl) ?_
  refine z_beq (tgt := 34) dX4_settles_8 (by decide) (fun h1 => ?_) (fun h1 => ?_)
  · refine z_bipush (v := -2) dX4_settles_34 (by decide) ?_
    refine z_iret hR dX4_settles_36 (⟨_, rfl, Or.inl ⟨fun q => h1 q.1, rfl, rfl⟩⟩)
  · refine z_iload_n dX4_settles_11 rfl rfl ?_
    refine z_iconst (v := 1) dX4_settles_12 (by decide) ?_
    refine z_sipush (v := 1000) dX4_settles_13 (by decide) ?_
    refine z_cSi (c_in μ _ _ _) q_X4_in tw_593 dX4_settles_16 rfl rfl (by omega) (Nat.le_of_ble_eq_true rfl) ?_
    refine z_beq (tgt := 34) dX4_settles_19 (by decide) (fun h2 => ?_) (fun h2 => ?_)
    · refine z_bipush (v := -2) dX4_settles_34 (by decide) ?_
      refine z_iret hR dX4_settles_36 (⟨_, rfl, Or.inl ⟨fun q => h2 q.2, rfl, rfl⟩⟩)
    · obtain ⟨M, hM, e⟩ : ∃ M : Nat, M < 1001 ∧ m = nI M := (rngS (by omega)).mp ⟨Int32.le_trans (by decide) h2.1, Int32.lt_of_le_of_lt h2.2 (by decide)⟩
      subst e
      refine z_aload_n dX4_settles_22 rfl rfl ?_
      refine z_iconst (v := 0) dX4_settles_23 (by decide) ?_
      refine z_iload_n dX4_settles_24 rfl rfl ?_
      refine z_iconst (v := 0) dX4_settles_25 (by decide) ?_
      refine z_iconst (v := 0) dX4_settles_26 (by decide) ?_
      refine z_iload_n dX4_settles_27 rfl rfl ?_
      refine z_cVs (m_whenHolds μ n hn hn2 hn12 M (by omega) (fun k hk => hW k (by omega)) 0 b 0 0 (Or.inl rfl)) q_X4_whenHolds tw_761 dX4_settles_28 rfl rfl rfl (by omega) (Nat.le_of_ble_eq_true rfl) (fun μ2 x2 hh => ?_)
      refine z_goto (tgt := 36) dX4_settles_31 (by decide) ?_
      refine z_iret hR dX4_settles_36 (⟨_, rfl, Or.inr ⟨⟨h1, h2⟩, M, by omega, rfl, hh⟩⟩)
theorem m_arrives (μ : zM) (n : Nat) (hn : μ (21, 0, 0) 0 = nI n) (hn2 : 2 ≤ n) (hn12 : n ≤ 12) (hW : ∀ k, k ≤ 1000 → Wf (itF k (μ (21, 0, 0)))) (c r s m : Int32) : zCs yX4_arrives prog_6_method_52_code 5 (some .int) 7 [zR (20, 0, 0), zI c, zI r, zI s, zI m] μ (fun μ' w => (¬ ((0 ≤ c ∧ c ≤ 2) ∧ (0 ≤ r ∧ r ≤ nI n - 1)) ∧ w = -1 ∧ μ' = μ) ∨ (((0 ≤ c ∧ c ≤ 2) ∧ (0 ≤ r ∧ r ≤ nI n - 1)) ∧ ¬ ((1 ≤ s ∧ s ≤ 1000) ∧ (1 ≤ m ∧ m ≤ 500)) ∧ w = -2 ∧ μ' = μ) ∨ (((0 ≤ c ∧ c ≤ 2) ∧ (0 ≤ r ∧ r ≤ nI n - 1)) ∧ ((1 ≤ s ∧ s ≤ 1000) ∧ (1 ≤ m ∧ m ≤ 500)) ∧ ∃ c' r' M : Nat, c' < 3 ∧ r' < n ∧ M ≤ 500 ∧ c = nI c' ∧ r = nI r' ∧ m = nI M ∧ ((allA (aD (μ (21, 0, 0)) c') n = 0 ∧ w = -5 ∧ μ' = μ) ∨ (¬ allA (aD (μ (21, 0, 0)) c') n = 0 ∧ FST (fun k => partB (itF k (μ (21, 0, 0))) n c' r' s) M w ∧ zoff [(21, 0, 0), (22, 0, 0), (25, 0, 0), (26, 0, 0)] μ μ' ∧ ∀ k, k < 2386 → μ' (21, 0, 0) k = μ (21, 0, 0) k)))) := by
  refine zCt.of "DyeTankModel" rfl (by decide +kernel) rfl (Nat.le_of_ble_eq_true rfl) (fun K hR => ?_)
  have v20 := zv_20
  have v21 := zv_21
  have v22 := zv_22
  have v23 := zv_23
  have v24 := zv_24
  have v25 := zv_25
  have v26 := zv_26
  have v27 := zv_27
  have v28 := zv_28
  refine z_ls (ls' := [zR (20, 0, 0), zI c, zI r, zI s, zI m]) rfl ?_
  refine z_iload_n dX4_arrives_0 rfl rfl ?_
  refine z_cSi (m_isColour μ _) q_X4_isColour tw_706 dX4_arrives_1 rfl rfl (by omega) (Nat.le_of_ble_eq_true rfl) ?_
  refine z_beq (tgt := 15) dX4_arrives_4 (by decide) (fun h1 => ?_) (fun h1 => ?_)
  · refine z_iconst (v := -1) dX4_arrives_15 (by decide) ?_
    refine z_iret hR dX4_arrives_16 (⟨_, rfl, Or.inl ⟨fun q => h1 q.1, rfl, rfl⟩⟩)
  · refine z_aload_n dX4_arrives_7 rfl rfl ?_
    refine z_iload_n dX4_arrives_8 rfl rfl ?_
    refine z_cVi (m_isRing μ _) q_X4_isRing tw_608 dX4_arrives_9 rfl rfl rfl (by omega) (Nat.le_of_ble_eq_true rfl) ?_
    rw [hn]
    refine z_bne (tgt := 17) dX4_arrives_12 (by decide) (fun h2 => ?_) (fun h2 => ?_)
    · refine z_iload_n dX4_arrives_17 rfl rfl ?_
      refine z_iconst (v := 1) dX4_arrives_18 (by decide) ?_
      refine z_sipush (v := 1000) dX4_arrives_19 (by decide) ?_
      refine z_cSi (c_in μ _ _ _) q_X4_in tw_593 dX4_arrives_22 rfl rfl (by omega) (Nat.le_of_ble_eq_true rfl) ?_
      refine z_beq (tgt := 40) dX4_arrives_25 (by decide) (fun h3 => ?_) (fun h3 => ?_)
      · refine z_bipush (v := -2) dX4_arrives_40 (by decide) ?_
        refine z_iret hR dX4_arrives_42 (⟨_, rfl, Or.inr (Or.inl ⟨⟨h1, h2⟩, fun q => h3 q.1, rfl, rfl⟩)⟩)
      · refine z_iload dX4_arrives_28 rfl ?_
        refine z_iconst (v := 1) dX4_arrives_30 (by decide) ?_
        refine z_sipush (v := 500) dX4_arrives_31 (by decide) ?_
        refine z_cSi (c_in μ _ _ _) q_X4_in tw_593 dX4_arrives_34 rfl rfl (by omega) (Nat.le_of_ble_eq_true rfl) ?_
        refine z_bne (tgt := 43) dX4_arrives_37 (by decide) (fun h4 => ?_) (fun h4 => ?_)
        · obtain ⟨M, hM, eM⟩ : ∃ M : Nat, M < 501 ∧ m = nI M := (rngS (by omega)).mp ⟨Int32.le_trans (by decide) h4.1, Int32.lt_of_le_of_lt h4.2 (by decide)⟩
          obtain ⟨c', hc, ec⟩ : ∃ c' : Nat, c' < 3 ∧ c = nI c' := (rngP (n := 3) (by omega) (by omega)).mp h1
          obtain ⟨r', hr, er⟩ : ∃ r' : Nat, r' < n ∧ r = nI r' := (rngP (by omega) (by omega)).mp h2
          subst eM ec er
          refine z_aload_n dX4_arrives_43 rfl rfl ?_
          refine z_iload_n dX4_arrives_44 rfl rfl ?_
          refine z_cVi (m_allOf μ n hn hn2 hn12 c' hc) q_X4_allOf tw_640 dX4_arrives_45 rfl rfl rfl (by omega) (Nat.le_of_ble_eq_true rfl) ?_
          refine z_if_ne (tgt := 56) dX4_arrives_48 (by decide) (fun h5 => ?_) (fun h5 => ?_)
          · refine z_aload_n dX4_arrives_56 rfl rfl ?_
            refine z_iconst (v := 1) dX4_arrives_57 (by decide) ?_
            refine z_iload_n dX4_arrives_58 rfl rfl ?_
            refine z_iload_n dX4_arrives_59 rfl rfl ?_
            refine z_iload_n dX4_arrives_60 rfl rfl ?_
            refine z_iload dX4_arrives_61 rfl ?_
            refine z_cVs (m_whenHolds μ n hn hn2 hn12 M (by omega) (fun k hk => hW k (by omega)) 1 (nI c') (nI r') s (Or.inr (Or.inl ⟨rfl, ⟨c', hc, rfl⟩, r', hr, rfl⟩))) q_X4_whenHolds tw_761 dX4_arrives_63 rfl rfl rfl (by omega) (Nat.le_of_ble_eq_true rfl) (fun μ2 x2 hh => ?_)
            have e0 : ∀ a, holdB a n 1 (nI c') (nI r') s = partB a n c' r' s := by
              intro a
              show partB a n (nI c').toNatClampNeg (nI r').toNatClampNeg s = _
              rw [nI_clamp (by omega), nI_clamp (by omega)]
            simp only [e0] at hh
            refine z_iret hR dX4_arrives_66 (⟨_, rfl, Or.inr (Or.inr ⟨⟨h1, h2⟩, ⟨h3, h4⟩, c', r', M, hc, hr, by omega, rfl, rfl, rfl, Or.inr ⟨h5, hh⟩⟩)⟩)
          · refine z_bipush (v := -5) dX4_arrives_51 (by decide) ?_
            refine z_goto (tgt := 66) dX4_arrives_53 (by decide) ?_
            refine z_iret hR dX4_arrives_66 (⟨_, rfl, Or.inr (Or.inr ⟨⟨h1, h2⟩, ⟨h3, h4⟩, c', r', M, hc, hr, by omega, rfl, rfl, rfl, Or.inl ⟨h5, rfl, rfl⟩⟩)⟩)
        · refine z_bipush (v := -2) dX4_arrives_40 (by decide) ?_
          refine z_iret hR dX4_arrives_42 (⟨_, rfl, Or.inr (Or.inl ⟨⟨h1, h2⟩, fun q => h4 q.2, rfl, rfl⟩)⟩)
    · refine z_iconst (v := -1) dX4_arrives_15 (by decide) ?_
      refine z_iret hR dX4_arrives_16 (⟨_, rfl, Or.inl ⟨fun q => h2 q.2, rfl, rfl⟩⟩)
theorem m_meet (μ : zM) (n mk : Nat) (hn : μ (21, 0, 0) 0 = nI n) (hn2 : 2 ≤ n) (hn12 : n ≤ 12) (hk : μ (21, 0, 0) 33 = nI mk) (hk6 : mk ≤ 6) (hW : ∀ k, k ≤ 1000 → Wf (itF k (μ (21, 0, 0)))) (x y b m : Int32) : zCs yX4_meet prog_6_method_53_code 5 (some .int) 7 [zR (20, 0, 0), zI x, zI y, zI b, zI m] μ (fun μ' w => (¬ ((0 ≤ x ∧ x ≤ nI mk - 1) ∧ (0 ≤ y ∧ y ≤ nI mk - 1)) ∧ w = -1 ∧ μ' = μ) ∨ (((0 ≤ x ∧ x ≤ nI mk - 1) ∧ (0 ≤ y ∧ y ≤ nI mk - 1)) ∧ ¬ ((0 ≤ b ∧ b ≤ 1800) ∧ (1 ≤ m ∧ m ≤ 1000)) ∧ w = -2 ∧ μ' = μ) ∨ (((0 ≤ x ∧ x ≤ nI mk - 1) ∧ (0 ≤ y ∧ y ≤ nI mk - 1)) ∧ ((0 ≤ b ∧ b ≤ 1800) ∧ (1 ≤ m ∧ m ≤ 1000)) ∧ ∃ i j M : Nat, i < mk ∧ j < mk ∧ M ≤ 1000 ∧ x = nI i ∧ y = nI j ∧ m = nI M ∧ FST (fun k => nearB (itF k (μ (21, 0, 0))) i j b) M w ∧ zoff [(21, 0, 0), (22, 0, 0), (25, 0, 0), (26, 0, 0)] μ μ' ∧ ∀ k, k < 2386 → μ' (21, 0, 0) k = μ (21, 0, 0) k)) := by
  refine zCt.of "DyeTankModel" rfl (by decide +kernel) rfl (Nat.le_of_ble_eq_true rfl) (fun K hR => ?_)
  have v20 := zv_20
  have v21 := zv_21
  have v22 := zv_22
  have v23 := zv_23
  have v24 := zv_24
  have v25 := zv_25
  have v26 := zv_26
  have v27 := zv_27
  have v28 := zv_28
  refine z_ls (ls' := [zR (20, 0, 0), zI x, zI y, zI b, zI m]) rfl ?_
  refine z_aload_n dX4_meet_0 rfl rfl ?_
  refine z_iload_n dX4_meet_1 rfl rfl ?_
  refine z_cVi (m_isMarker μ _) q_X4_isMarker tw_745 dX4_meet_2 rfl rfl rfl (by omega) (Nat.le_of_ble_eq_true rfl) ?_
  rw [hk]
  refine z_beq (tgt := 16) dX4_meet_5 (by decide) (fun h1 => ?_) (fun h1 => ?_)
  · refine z_iconst (v := -1) dX4_meet_16 (by decide) ?_
    refine z_iret hR dX4_meet_17 (⟨_, rfl, Or.inl ⟨fun q => h1 q.1, rfl, rfl⟩⟩)
  · refine z_aload_n dX4_meet_8 rfl rfl ?_
    refine z_iload_n dX4_meet_9 rfl rfl ?_
    refine z_cVi (m_isMarker μ _) q_X4_isMarker tw_745 dX4_meet_10 rfl rfl rfl (by omega) (Nat.le_of_ble_eq_true rfl) ?_
    rw [hk]
    refine z_bne (tgt := 18) dX4_meet_13 (by decide) (fun h2 => ?_) (fun h2 => ?_)
    · refine z_iload_n dX4_meet_18 rfl rfl ?_
      refine z_iconst (v := 0) dX4_meet_19 (by decide) ?_
      refine z_sipush (v := 1800) dX4_meet_20 (by decide) ?_
      refine z_cSi (c_in μ _ _ _) q_X4_in tw_593 dX4_meet_23 rfl rfl (by omega) (Nat.le_of_ble_eq_true rfl) ?_
      refine z_beq (tgt := 54) dX4_meet_26 (by decide) (fun h3 => ?_) (fun h3 => ?_)
      · refine z_bipush (v := -2) dX4_meet_54 (by decide) ?_
        refine z_iret hR dX4_meet_56 (⟨_, rfl, Or.inr (Or.inl ⟨⟨h1, h2⟩, fun q => h3 q.1, rfl, rfl⟩)⟩)
      · refine z_iload dX4_meet_29 rfl ?_
        refine z_iconst (v := 1) dX4_meet_31 (by decide) ?_
        refine z_sipush (v := 1000) dX4_meet_32 (by decide) ?_
        refine z_cSi (c_in μ _ _ _) q_X4_in tw_593 dX4_meet_35 rfl rfl (by omega) (Nat.le_of_ble_eq_true rfl) ?_
        refine z_beq (tgt := 54) dX4_meet_38 (by decide) (fun h4 => ?_) (fun h4 => ?_)
        · refine z_bipush (v := -2) dX4_meet_54 (by decide) ?_
          refine z_iret hR dX4_meet_56 (⟨_, rfl, Or.inr (Or.inl ⟨⟨h1, h2⟩, fun q => h4 q.2, rfl, rfl⟩)⟩)
        · obtain ⟨M, hM, eM⟩ : ∃ M : Nat, M < 1001 ∧ m = nI M := (rngS (by omega)).mp ⟨Int32.le_trans (by decide) h4.1, Int32.lt_of_le_of_lt h4.2 (by decide)⟩
          obtain ⟨i, hi, ei⟩ := rngQ (n := mk) (by omega) h1
          obtain ⟨j, hj, ej⟩ := rngQ (n := mk) (by omega) h2
          subst eM ei ej
          refine z_aload_n dX4_meet_41 rfl rfl ?_
          refine z_iconst (v := 2) dX4_meet_42 (by decide) ?_
          refine z_iload_n dX4_meet_43 rfl rfl ?_
          refine z_iload_n dX4_meet_44 rfl rfl ?_
          refine z_iload_n dX4_meet_45 rfl rfl ?_
          refine z_iload dX4_meet_46 rfl ?_
          refine z_cVs (m_whenHolds μ n hn hn2 hn12 M (by omega) (fun k hk => hW k (by omega)) 2 (nI i) (nI j) b (Or.inr (Or.inr ⟨rfl, ⟨i, by omega, rfl⟩, j, by omega, rfl⟩))) q_X4_whenHolds tw_761 dX4_meet_48 rfl rfl rfl (by omega) (Nat.le_of_ble_eq_true rfl) (fun μ2 x2 hh => ?_)
          refine z_goto (tgt := 56) dX4_meet_51 (by decide) ?_
          have e0 : ∀ a, holdB a n 2 (nI i) (nI j) b = nearB a i j b := by
            intro a
            show nearB a (nI i).toNatClampNeg (nI j).toNatClampNeg b = _
            rw [nI_clamp (by omega), nI_clamp (by omega)]
          simp only [e0] at hh
          refine z_iret hR dX4_meet_56 (⟨_, rfl, Or.inr (Or.inr ⟨⟨h1, h2⟩, ⟨h3, h4⟩, i, j, M, hi, hj, by omega, rfl, rfl, rfl, hh⟩)⟩)
    · refine z_iconst (v := -1) dX4_meet_16 (by decide) ?_
      refine z_iret hR dX4_meet_17 (⟨_, rfl, Or.inl ⟨fun q => h2 q.2, rfl, rfl⟩⟩)
