/-- a row written in one place of the tank alone -/
theorem Rep_mom {μ : zM} {t : Nat} {a b : Nat → Int32} {f : Nat → Int32} (h : Rep μ t a) (hf : ∀ r, r < 12 → f r = aP b r) (up : ∀ k, (k < 9 ∨ 21 ≤ k) → b k = a k) : Rep (st μ (7, t, 0) f) t b := by
  obtain ⟨⟨g0, g1, g2⟩, gS, gP, gA, gT, gD, gM⟩ := h
  have en : rN b = rN a := by unfold rN; rw [up 0 (by omega)]
  have ek : rK b = rK a := by unfold rK; rw [up 33 (by omega)]
  unfold Rep
  rw [en, ek]
  refine ⟨⟨?_, ?_, ?_⟩, ?_, ?_, ?_, ?_, ?_, ?_⟩
  · rw [st_ne _ _ (by simp), up 0 (by omega)]; exact g0
  · rw [st_ne _ _ (by simp), up 1 (by omega)]; exact g1
  · rw [st_ne _ _ (by simp), up 33 (by omega)]; exact g2
  · intro i hi
    rw [st_ne _ _ (by simp)]
    exact (gS i hi).trans (up _ (by omega)).symm
  · intro r hr
    rw [st_eq]
    exact hf r hr
  · intro r hr
    rw [st_ne _ _ (by simp)]
    exact (gA r hr).trans (up _ (by omega)).symm
  · intro c hc
    rw [st_ne _ _ (by simp), gT c hc]
    refine congrFun (congrArg allA ?_) _
    funext i
    exact (up _ (by omega)).symm
  · intro c hc i hi
    rw [st_ne _ _ (by simp)]
    exact (gD c hc i hi).trans (up _ (by omega)).symm
  · intro m hm
    have := gM m hm
    unfold RepM at this ⊢
    rw [st_ne _ _ (by simp), st_ne _ _ (by simp), st_ne _ _ (by simp), up _ (by omega), up _ (by omega), up _ (by omega), up _ (by omega)]
    obtain ⟨q0, q1, q2, q3, q4, q5⟩ := this
    refine ⟨q0, q1, q2, q3, q4, fun k hk2 => ?_⟩
    rw [up _ (by omega), up _ (by omega)]
    exact q5 k hk2
theorem x_spin (μ : zM) (a : Nat → Int32) (h : Rep μ 0 a) (h0 : R0 a) (x v : Int32) : zCs yX3_spin prog_1_method_4_code 4 (some .int) 3 [zR (0, 0, 0), zI x, zI v] μ (fun μ' w => (∃ r, r < rN a ∧ x = nI r ∧ (-1500 ≤ v ∧ v ≤ 1500) ∧ w = vel (aP a) r ∧ zoT 0 μ μ' ∧ Rep μ' 0 (upd a (9 + r) (v * nI (2 * r + 1)))) ∨ ((¬ ∃ r, r < rN a ∧ x = nI r) ∧ w = -1000000001 ∨ (∃ r, r < rN a ∧ x = nI r) ∧ ¬ (-1500 ≤ v ∧ v ≤ 1500) ∧ w = -1000000002) ∧ μ' = μ) := by
  have hR0 := h
  obtain ⟨⟨g0, g1, g2⟩, gS, gP, gA, gT, gD, gM⟩ := h
  obtain ⟨hn, hn2, hn12⟩ := h0
  generalize rN a = n at hn hn2 hn12 ⊢
  have ht : (0 : Nat) < 4 := by omega
  refine zCt.of "DyeTank" rfl (by decide +kernel) rfl (Nat.le_of_ble_eq_true rfl) (fun K hR => ?_)
  have v0 := zv_0
  have v1 := zv_1
  have v2 := zv_2
  have v3 := zv_3
  have v4 := zv_4
  have v5 := zv_5 0 ht
  have v7 := zv_7 0 ht
  refine z_ls (ls' := [zR (0, 0, 0), zI x, zI v, zN]) rfl ?_
  refine z_aload_n dX3_spin_0 rfl rfl ?_
  refine zg_X3_tank dX3_spin_1 tw_161 ?_
  refine z_iload_n dX3_spin_4 rfl rfl ?_
  refine z_cVi (c_hasRing μ 0 ht _) q_X2_hasRing tw_232 dX3_spin_5 rfl rfl rfl (by omega) (Nat.le_of_ble_eq_true rfl) ?_
  rw [g0, hn]
  refine z_bne (tgt := 14) dX3_spin_8 (by decide) (fun h1 => ?_) (fun h1 => ?_)
  · rw [rngS (by omega)] at h1
    refine z_iload_n dX3_spin_14 rfl rfl ?_
    refine z_cSi (c_isSpeed μ _) q_X3_isSpeed tw_363 dX3_spin_15 rfl rfl (by omega) (Nat.le_of_ble_eq_true rfl) ?_
    refine z_bne (tgt := 24) dX3_spin_18 (by decide) (fun h2 => ?_) (fun h2 => ?_)
    · obtain ⟨r, hr, e⟩ := h1
      subst e
      refine z_aload_n dX3_spin_24 rfl rfl ?_
      refine zg_X3_tank dX3_spin_25 tw_161 ?_
      refine z_iload_n dX3_spin_28 rfl rfl ?_
      refine z_cVi (c_velocityOf μ 0 ht r (by omega)) q_X2_velocityOf tw_237 dX3_spin_29 rfl rfl rfl (by omega) (Nat.le_of_ble_eq_true rfl) ?_
      refine z_istS_n dX3_spin_32 rfl (by decide) rfl ?_
      refine z_aload_n dX3_spin_33 rfl rfl ?_
      refine zg_X3_tank dX3_spin_34 tw_161 ?_
      refine z_iload_n dX3_spin_37 rfl rfl ?_
      refine z_iload_n dX3_spin_38 rfl rfl ?_
      refine z_cVv (c_giveVelocity μ 0 r ht (by omega) v) q_X2_giveVelocity tw_366 dX3_spin_39 rfl rfl rfl (by omega) (Nat.le_of_ble_eq_true rfl) (fun μ2 hh => ?_)
      refine z_iload_n dX3_spin_42 rfl rfl ?_
      refine z_iret hR dX3_spin_43 (⟨_, rfl, Or.inl ⟨r, hr, rfl, h2, vel_congr (gP r (by omega)), by rw [hh]; exact zoT.rf.put 7 0 _, ?_⟩⟩)
      rw [hh]
      refine Rep_mom hR0 (fun q hq => ?_) (fun k hk => if_neg (by omega))
      by_cases e : q = r
      · rw [e]
        exact (if_pos rfl).trans (if_pos rfl).symm
      · exact (if_neg e).trans ((gP q hq).trans (if_neg (show ¬ 9 + q = 9 + r by omega)).symm)
    · refine z_ldc (v := -1000000002) dX3_spin_21 tw_224 ?_
      refine z_iret hR dX3_spin_23 (⟨_, rfl, Or.inr ⟨Or.inr ⟨h1, h2, rfl⟩, rfl⟩⟩)
  · rw [rngS (by omega)] at h1
    refine z_ldc (v := -1000000001) dX3_spin_11 tw_236 ?_
    refine z_iret hR dX3_spin_13 (⟨_, rfl, Or.inr ⟨Or.inl ⟨h1, rfl⟩, rfl⟩⟩)
theorem x_spinAll (μ : zM) (a : Nat → Int32) (h : Rep μ 0 a) (h0 : R0 a) (x y : Int32) : zCs yX3_spinAll prog_1_method_5_code 3 (some .int) 4 [zR (0, 0, 0), zI x, zI y] μ (fun μ' w => ((-1500 ≤ x ∧ x ≤ 1500) ∧ (-1500 ≤ y ∧ y ≤ 1500) ∧ w = sm (aP (rg 9 12 (fun j => if j < rN a then gvl x y (rN a) j else aP a j) a)) (rN a) ∧ zoT 0 μ μ' ∧ Rep μ' 0 (rg 9 12 (fun j => if j < rN a then gvl x y (rN a) j else aP a j) a)) ∨ ¬ ((-1500 ≤ x ∧ x ≤ 1500) ∧ (-1500 ≤ y ∧ y ≤ 1500)) ∧ w = -1000000002 ∧ μ' = μ) := by
  have hR0 := h
  obtain ⟨⟨g0, g1, g2⟩, gS, gP, gA, gT, gD, gM⟩ := h
  obtain ⟨hn, hn2, hn12⟩ := h0
  generalize rN a = n at hn hn2 hn12 ⊢
  have ht : (0 : Nat) < 4 := by omega
  refine zCt.of "DyeTank" rfl (by decide +kernel) rfl (Nat.le_of_ble_eq_true rfl) (fun K hR => ?_)
  have v0 := zv_0
  have v1 := zv_1
  have v2 := zv_2
  have v3 := zv_3
  have v4 := zv_4
  have v5 := zv_5 0 ht
  refine z_ls (ls' := [zR (0, 0, 0), zI x, zI y]) rfl ?_
  refine z_iload_n dX3_spinAll_0 rfl rfl ?_
  refine z_cSi (c_isSpeed μ _) q_X3_isSpeed tw_363 dX3_spinAll_1 rfl rfl (by omega) (Nat.le_of_ble_eq_true rfl) ?_
  refine z_beq (tgt := 14) dX3_spinAll_4 (by decide) (fun h1 => ?_) (fun h1 => ?_)
  · refine z_ldc (v := -1000000002) dX3_spinAll_14 tw_224 ?_
    refine z_iret hR dX3_spinAll_16 (⟨_, rfl, Or.inr ⟨fun q => h1 q.1, rfl, rfl⟩⟩)
  · refine z_iload_n dX3_spinAll_7 rfl rfl ?_
    refine z_cSi (c_isSpeed μ _) q_X3_isSpeed tw_363 dX3_spinAll_8 rfl rfl (by omega) (Nat.le_of_ble_eq_true rfl) ?_
    refine z_bne (tgt := 17) dX3_spinAll_11 (by decide) (fun h2 => ?_) (fun h2 => ?_)
    · refine z_aload_n dX3_spinAll_17 rfl rfl ?_
      refine zg_X3_tank dX3_spinAll_18 tw_161 ?_
      refine z_iload_n dX3_spinAll_21 rfl rfl ?_
      refine z_iload_n dX3_spinAll_22 rfl rfl ?_
      refine z_cVv (c_giveVelocities μ 0 n ht (g0.trans hn) hn2 hn12 x y) q_X2_giveVelocities tw_375 dX3_spinAll_23 rfl rfl rfl (by omega) (Nat.le_of_ble_eq_true rfl) (fun μ2 hh => ?_)
      have hf : ∀ r, r < 12 → (if r < n then gvl x y n r else μ (7, 0, 0) r) = aP (rg 9 12 (fun j => if j < n then gvl x y n j else aP a j) a) r := by
        intro r hr
        unfold aP
        rw [rg_in hr]
        by_cases q : r < n
        · rw [if_pos q, if_pos q]
        · rw [if_neg q, if_neg q]
          exact gP r hr
      refine z_aload_n dX3_spinAll_26 rfl rfl ?_
      refine zg_X3_tank dX3_spinAll_27 tw_161 ?_
      refine z_cVi (c_allMomenta μ2 0 n ht (by rw [hh, st_ne _ _ (by simp)]; exact g0.trans hn) hn12) q_X2_allMomenta tw_200 dX3_spinAll_30 rfl rfl rfl (by omega) (Nat.le_of_ble_eq_true rfl) ?_
      refine z_iret hR dX3_spinAll_33 (⟨_, rfl, Or.inl ⟨h1, h2, ?_, by rw [hh]; exact zoT.rf.put 7 0 _, ?_⟩⟩)
      · rw [hh, st_eq]
        exact sm_congr n (fun r hr => hf r (by omega))
      · rw [hh]
        exact Rep_mom hR0 hf (fun k hk => rg_out (by omega))
    · refine z_ldc (v := -1000000002) dX3_spinAll_14 tw_224 ?_
      refine z_iret hR dX3_spinAll_16 (⟨_, rfl, Or.inr ⟨fun q => h2 q.2, rfl, rfl⟩⟩)
theorem x_say (μ : zM) {l s : Nat} (h : PD μ l s) (hl : l ≤ 60) (x : Int32) : zCs yX3_say prog_1_method_20_code 2 (some .int) 3 [zR (0, 0, 0), zI x] μ (fun μ' w => (¬ (33 ≤ x ∧ x ≤ 126) ∧ w = -2 ∧ μ' = μ) ∨ ((33 ≤ x ∧ x ≤ 126) ∧ l = 60 ∧ w = -4 ∧ μ' = μ) ∨ ((33 ≤ x ∧ x ≤ 126) ∧ l < 60 ∧ w = nI (l + 1) ∧ μ' = st (st μ (4, 0, 0) (upd (μ (4, 0, 0)) l x)) (3, 0, 0) (upd (μ (3, 0, 0)) 0 (nI (l + 1))))) := by
  refine zCt.of "DyeTank" rfl (by decide +kernel) rfl (Nat.le_of_ble_eq_true rfl) (fun K hR => ?_)
  have v0 := zv_0
  have v1 := zv_1
  have v2 := zv_2
  have v3 := zv_3
  have v4 := zv_4
  refine z_ls (ls' := [zR (0, 0, 0), zI x]) rfl ?_
  refine z_iload_n dX3_say_0 rfl rfl ?_
  refine z_bipush (v := 33) dX3_say_1 (by decide) ?_
  refine z_bipush (v := 126) dX3_say_3 (by decide) ?_
  refine z_cSi (c_within μ _ _ _) q_X3_within tw_181 dX3_say_5 rfl rfl (by omega) (Nat.le_of_ble_eq_true rfl) ?_
  refine z_bne (tgt := 14) dX3_say_8 (by decide) (fun h1 => ?_) (fun h1 => ?_)
  · refine z_aload_n dX3_say_14 rfl rfl ?_
    refine zg_X3_pad dX3_say_15 tw_165 ?_
    refine zg_X1_length dX3_say_18 tw_124 ?_
    refine z_top ((show _ = nI l from h.1)) ?_
    refine z_bipush (v := 60) dX3_say_21 (by decide) ?_
    refine z_icmp_lt (tgt := 29) dX3_say_23 (by decide) (fun h2 => ?_) (fun h2 => ?_)
    · have h3 : l < 60 := nlt (b := 60) h2
      obtain ⟨q, hq, e⟩ : ∃ q : Nat, q < 127 ∧ x = nI q := (rngS (by omega)).mp ⟨Int32.le_trans (by decide) h1.1, Int32.lt_of_le_of_lt h1.2 (by decide)⟩
      have ec : (x.toUInt32 % 65536).toInt32 = x := by
        rw [e, (sb_byte q (by omega)).2.1]
      refine z_aload_n dX3_say_29 rfl rfl ?_
      refine zg_X3_pad dX3_say_30 tw_165 ?_
      refine z_iload_n dX3_say_33 rfl rfl ?_
      refine z_i2c dX3_say_34 ?_
      refine z_top (ec) ?_
      refine z_cVv (c_append μ h h3 x ⟨q, by omega, e⟩) q_X1_append tw_511 dX3_say_35 rfl rfl rfl (by omega) (Nat.le_of_ble_eq_true rfl) (fun μ2 hh => ?_)
      refine z_aload_n dX3_say_38 rfl rfl ?_
      refine zg_X3_pad dX3_say_39 tw_165 ?_
      refine zg_X1_length dX3_say_42 tw_124 ?_
      refine z_iret hR dX3_say_45 (⟨_, rfl, Or.inr (Or.inr ⟨h1, h3, ?_, hh⟩)⟩)
      rw [hh, st_eq]
      exact if_pos rfl
    · have h3 : l = 60 := by
        have := nnlt (b := 60) h2
        omega
      refine z_bipush (v := -4) dX3_say_26 (by decide) ?_
      refine z_iret hR dX3_say_28 (⟨_, rfl, Or.inr (Or.inl ⟨h1, h3, rfl, rfl⟩)⟩)
  · refine z_bipush (v := -2) dX3_say_11 (by decide) ?_
    refine z_iret hR dX3_say_13 (⟨_, rfl, Or.inl ⟨h1, rfl, rfl⟩⟩)
theorem x_wipe (μ : zM) : zCs yX3_wipe prog_1_method_21_code 2 (some .int) 1 [zR (0, 0, 0)] μ (fun μ' w => w = μ (3, 0, 0) 0 ∧ μ' = st μ (3, 0, 0) (upd (μ (3, 0, 0)) 0 0)) := by
  refine zCt.of "DyeTank" rfl (by decide +kernel) rfl (Nat.le_of_ble_eq_true rfl) (fun K hR => ?_)
  have v0 := zv_0
  have v1 := zv_1
  have v2 := zv_2
  have v3 := zv_3
  have v4 := zv_4
  refine z_ls (ls' := [zR (0, 0, 0), zN]) rfl ?_
  refine z_aload_n dX3_wipe_0 rfl rfl ?_
  refine zg_X3_pad dX3_wipe_1 tw_165 ?_
  refine zg_X1_length dX3_wipe_4 tw_124 ?_
  refine z_istS_n dX3_wipe_7 rfl (by decide) rfl ?_
  refine z_aload_n dX3_wipe_8 rfl rfl ?_
  refine zg_X3_pad dX3_wipe_9 tw_165 ?_
  refine z_iconst (v := 0) dX3_wipe_12 (by decide) ?_
  refine zp_X1_length dX3_wipe_13 tw_124 ?_
  refine z_iload_n dX3_wipe_16 rfl rfl ?_
  refine z_iret hR dX3_wipe_17 (⟨_, rfl, rfl, rfl⟩)
theorem x_fault (μ : zM) {l s : Nat} (h : PD μ l s) (hl : l ≤ 60) : zCs yX3_fault prog_1_method_22_code 1 (some .int) 7 [zR (0, 0, 0)] μ (fun μ' r => r = fauP (chr (μ (4, 0, 0)) l) l ∧ zoff [(3, 0, 0)] μ μ' ∧ ∃ s', PD μ' l s') := by
  refine zCt.of "DyeTank" rfl (by decide +kernel) rfl (Nat.le_of_ble_eq_true rfl) (fun K hR => ?_)
  have v0 := zv_0
  have v1 := zv_1
  have v2 := zv_2
  have v3 := zv_3
  have v4 := zv_4
  refine z_ls (ls' := [zR (0, 0, 0)]) rfl ?_
  refine z_aload_n dX3_fault_0 rfl rfl ?_
  refine zg_X3_pad dX3_fault_1 tw_165 ?_
  refine z_cVs (c_firstFault μ h hl) q_X1_firstFault tw_519 dX3_fault_4 rfl rfl rfl (by omega) (Nat.le_of_ble_eq_true rfl) (fun μ1 x1 hh => ?_)
  refine z_iret hR dX3_fault_7 (⟨_, rfl, hh⟩)
