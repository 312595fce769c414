/-! the reference's calls that set: what each answers, what it leaves in the row -/
abbrev takesP (s v : Int32) : Prop := (s = 0 ∨ s = 1 ∨ s = 3) ∧ (0 ≤ v ∧ v ≤ 100) ∨ (s = 2 ∨ s = 4) ∧ (-1500 ≤ v ∧ v ≤ 1500) ∨ s = 5 ∧ (0 ≤ v ∧ v ≤ 200) ∨ s = 6 ∧ (0 ≤ v ∧ v ≤ 500)
theorem zb_ok {c : Prop} [Decidable c] : zb c = 0 ∨ zb c = 1 := by
  unfold zb
  split
  · exact Or.inr rfl
  · exact Or.inl rfl
theorem m_takes (μ : zM) (s v : Int32) : zCi yX4_takes prog_6_method_11_code 2 (some .boolean) 2 [zI s, zI v] μ (zb (takesP s v)) := by
  refine zCt.of "DyeTankModel" rfl (by decide +kernel) rfl (Nat.le_of_ble_eq_true rfl) (fun K hR => ?_)
  refine z_ls (ls' := [zI s, zI v]) rfl ?_
  refine z_iload_n dX4_takes_0 rfl rfl ?_
  rcases sw5 s with hsw | hsw | hsw | hsw | hsw | hsw | hsw
  · subst hsw
    refine z_tabIn (tgt := 40) (off := 39) dX4_takes_1 (by decide) (by decide) rfl (by decide) ?_
    refine z_iload_n dX4_takes_40 rfl rfl ?_
    refine z_iconst (v := 0) dX4_takes_41 (by decide) ?_
    refine z_bipush (v := 100) dX4_takes_42 (by decide) ?_
    refine z_cSi (c_in μ _ _ _) q_X4_in tw_593 dX4_takes_44 rfl rfl (by omega) (Nat.le_of_ble_eq_true rfl) ?_
    refine z_bret hR dX4_takes_47 zb_ok ⟨rfl, ?_⟩
    exact congrArg zI (zb_iff (by unfold takesP; constructor <;> (intro h; simpa using h)))
  · subst hsw
    refine z_tabIn (tgt := 40) (off := 39) dX4_takes_1 (by decide) (by decide) rfl (by decide) ?_
    refine z_iload_n dX4_takes_40 rfl rfl ?_
    refine z_iconst (v := 0) dX4_takes_41 (by decide) ?_
    refine z_bipush (v := 100) dX4_takes_42 (by decide) ?_
    refine z_cSi (c_in μ _ _ _) q_X4_in tw_593 dX4_takes_44 rfl rfl (by omega) (Nat.le_of_ble_eq_true rfl) ?_
    refine z_bret hR dX4_takes_47 zb_ok ⟨rfl, ?_⟩
    exact congrArg zI (zb_iff (by unfold takesP; constructor <;> (intro h; simpa using h)))
  · subst hsw
    refine z_tabIn (tgt := 48) (off := 47) dX4_takes_1 (by decide) (by decide) rfl (by decide) ?_
    refine z_iload_n dX4_takes_48 rfl rfl ?_
    refine z_sipush (v := -1500) dX4_takes_49 (by decide) ?_
    refine z_sipush (v := 1500) dX4_takes_52 (by decide) ?_
    refine z_cSi (c_in μ _ _ _) q_X4_in tw_593 dX4_takes_55 rfl rfl (by omega) (Nat.le_of_ble_eq_true rfl) ?_
    refine z_bret hR dX4_takes_58 zb_ok ⟨rfl, ?_⟩
    exact congrArg zI (zb_iff (by unfold takesP; constructor <;> (intro h; simpa using h)))
  · subst hsw
    refine z_tabIn (tgt := 40) (off := 39) dX4_takes_1 (by decide) (by decide) rfl (by decide) ?_
    refine z_iload_n dX4_takes_40 rfl rfl ?_
    refine z_iconst (v := 0) dX4_takes_41 (by decide) ?_
    refine z_bipush (v := 100) dX4_takes_42 (by decide) ?_
    refine z_cSi (c_in μ _ _ _) q_X4_in tw_593 dX4_takes_44 rfl rfl (by omega) (Nat.le_of_ble_eq_true rfl) ?_
    refine z_bret hR dX4_takes_47 zb_ok ⟨rfl, ?_⟩
    exact congrArg zI (zb_iff (by unfold takesP; constructor <;> (intro h; simpa using h)))
  · subst hsw
    refine z_tabIn (tgt := 48) (off := 47) dX4_takes_1 (by decide) (by decide) rfl (by decide) ?_
    refine z_iload_n dX4_takes_48 rfl rfl ?_
    refine z_sipush (v := -1500) dX4_takes_49 (by decide) ?_
    refine z_sipush (v := 1500) dX4_takes_52 (by decide) ?_
    refine z_cSi (c_in μ _ _ _) q_X4_in tw_593 dX4_takes_55 rfl rfl (by omega) (Nat.le_of_ble_eq_true rfl) ?_
    refine z_bret hR dX4_takes_58 zb_ok ⟨rfl, ?_⟩
    exact congrArg zI (zb_iff (by unfold takesP; constructor <;> (intro h; simpa using h)))
  · subst hsw
    refine z_tabIn (tgt := 59) (off := 58) dX4_takes_1 (by decide) (by decide) rfl (by decide) ?_
    refine z_iload_n dX4_takes_59 rfl rfl ?_
    refine z_iconst (v := 0) dX4_takes_60 (by decide) ?_
    refine z_sipush (v := 200) dX4_takes_61 (by decide) ?_
    refine z_cSi (c_in μ _ _ _) q_X4_in tw_593 dX4_takes_64 rfl rfl (by omega) (Nat.le_of_ble_eq_true rfl) ?_
    refine z_bret hR dX4_takes_67 zb_ok ⟨rfl, ?_⟩
    exact congrArg zI (zb_iff (by unfold takesP; constructor <;> (intro h; simpa using h)))
  · refine z_tabOut (tgt := 68) dX4_takes_1 hsw (by decide) ?_
    have n0 : ∀ k : Nat, k < 6 → ¬ s = nI k := by
      intro k hk e
      rw [e, nI_toInt (by omega)] at hsw
      omega
    have q0 := n0 0 (by omega)
    have q1 := n0 1 (by omega)
    have q2 := n0 2 (by omega)
    have q3 := n0 3 (by omega)
    have q4 := n0 4 (by omega)
    have q5 := n0 5 (by omega)
    refine z_iload_n dX4_takes_68 rfl rfl ?_
    refine z_bipush (v := 6) dX4_takes_69 (by decide) ?_
    refine z_icmp_ne (tgt := 89) dX4_takes_71 (by decide) (fun h6 => ?_) (fun h6 => ?_)
    · refine z_iconst (v := 0) dX4_takes_89 (by decide) ?_
      refine z_bret hR dX4_takes_90 (Or.inl rfl) ⟨rfl, ?_⟩
      refine congrArg zI (zb_f ?_).symm
      intro hh
      rcases hh with ⟨h | h | h, _⟩ | ⟨h | h, _⟩ | ⟨h, _⟩ | ⟨h, _⟩
      · exact q0 h
      · exact q1 h
      · exact q3 h
      · exact q2 h
      · exact q4 h
      · exact q5 h
      · exact h6 h
    · have e6 : s = 6 := h6
      subst e6
      refine z_iload_n dX4_takes_74 rfl rfl ?_
      refine z_iconst (v := 0) dX4_takes_75 (by decide) ?_
      refine z_sipush (v := 500) dX4_takes_76 (by decide) ?_
      refine z_cSi (c_in μ _ _ _) q_X4_in tw_593 dX4_takes_79 rfl rfl (by omega) (Nat.le_of_ble_eq_true rfl) ?_
      refine z_beq (tgt := 89) dX4_takes_82 (by decide) (fun hv => ?_) (fun hv => ?_)
      · refine z_iconst (v := 0) dX4_takes_89 (by decide) ?_
        refine z_bret hR dX4_takes_90 (Or.inl rfl) ⟨rfl, ?_⟩
        exact congrArg zI (zb_f (by unfold takesP; intro h; apply hv; simpa using h)).symm
      · refine z_iconst (v := 1) dX4_takes_85 (by decide) ?_
        refine z_goto (tgt := 90) dX4_takes_86 (by decide) ?_
        refine z_bret hR dX4_takes_90 (Or.inr rfl) ⟨rfl, ?_⟩
        exact congrArg zI (zb_t (by unfold takesP; simpa using hv)).symm
theorem m_setUp (μ : zM) (x : Int32) : zCs yX4_setUp prog_6_method_10_code 3 (some .int) 3 [zR (20, 0, 0), zI x] μ (fun μ' r => ((2 ≤ x ∧ x ≤ 12) ∧ r = μ (21, 0, 0) 0 ∧ ∃ f, μ' = st μ (21, 0, 0) f ∧ ∀ k, k < 2386 → f k = beg x k) ∨ ¬ (2 ≤ x ∧ x ≤ 12) ∧ r = -2 ∧ μ' = μ) := by
  refine zCt.of "DyeTankModel" rfl (by decide +kernel) rfl (Nat.le_of_ble_eq_true rfl) (fun K hR => ?_)
  have v20 := zv_20
  have v21 := zv_21
  have v22 := zv_22
  have v23 := zv_23
  have v24 := zv_24
  have v25 := zv_25
  have v26 := zv_26
  have v27 := zv_27
  have v28 := zv_28
  refine z_ls (ls' := [zR (20, 0, 0), zI x, zN]) rfl ?_
  refine z_iload_n dX4_setUp_0 rfl rfl ?_
  refine z_iconst (v := 2) dX4_setUp_1 (by decide) ?_
  refine z_bipush (v := 12) dX4_setUp_2 (by decide) ?_
  refine z_cSi (c_in μ _ _ _) q_X4_in tw_593 dX4_setUp_4 rfl rfl (by omega) (Nat.le_of_ble_eq_true rfl) ?_
  refine z_bne (tgt := 13) dX4_setUp_7 (by decide) (fun h => ?_) (fun h => ?_)
  · refine z_aload_n dX4_setUp_13 rfl rfl ?_
    refine zg_X4_at dX4_setUp_14 tw_552 ?_
    refine z_iconst (v := 0) dX4_setUp_17 (by decide) ?_
    refine z_iald dX4_setUp_18 (fun _ _ => rfl) rfl (i := 0) (by decide) ?_
    refine z_istS_n dX4_setUp_19 rfl (by decide) rfl ?_
    refine z_aload_n dX4_setUp_20 rfl rfl ?_
    refine z_iload_n dX4_setUp_21 rfl rfl ?_
    refine z_cVv (m_begin μ x) q_X4_begin tw_548 dX4_setUp_22 rfl rfl rfl (by omega) (Nat.le_of_ble_eq_true rfl) (fun μ' hh => ?_)
    refine z_iload_n dX4_setUp_25 rfl rfl ?_
    refine z_iret hR dX4_setUp_26 (⟨_, rfl, Or.inl ⟨h, rfl, hh⟩⟩)
  · refine z_bipush (v := -2) dX4_setUp_10 (by decide) ?_
    refine z_iret hR dX4_setUp_12 (⟨_, rfl, Or.inr ⟨h, rfl, rfl⟩⟩)
theorem takes_ix {s v : Int32} (h : takesP s v) : ∃ j : Nat, j < 7 ∧ s = nI j := by
  rcases h with ⟨h | h | h, _⟩ | ⟨h | h, _⟩ | ⟨h, _⟩ | ⟨h, _⟩
  · exact ⟨0, by omega, h⟩
  · exact ⟨1, by omega, h⟩
  · exact ⟨3, by omega, h⟩
  · exact ⟨2, by omega, h⟩
  · exact ⟨4, by omega, h⟩
  · exact ⟨5, by omega, h⟩
  · exact ⟨6, by omega, h⟩
theorem m_set (μ : zM) (s v : Int32) : zCs yX4_set prog_6_method_12_code 4 (some .int) 3 [zR (20, 0, 0), zI s, zI v] μ (fun μ' r => (∃ j : Nat, j < 7 ∧ s = nI j ∧ takesP s v ∧ r = μ (21, 0, 0) (2 + j) ∧ μ' = st μ (21, 0, 0) (upd (μ (21, 0, 0)) (2 + j) v)) ∨ ¬ takesP s v ∧ r = -1000000002 ∧ μ' = μ) := by
  refine zCt.of "DyeTankModel" rfl (by decide +kernel) rfl (Nat.le_of_ble_eq_true rfl) (fun K hR => ?_)
  have v20 := zv_20
  have v21 := zv_21
  have v22 := zv_22
  have v23 := zv_23
  have v24 := zv_24
  have v25 := zv_25
  have v26 := zv_26
  have v27 := zv_27
  have v28 := zv_28
  refine z_ls (ls' := [zR (20, 0, 0), zI s, zI v, zN]) rfl ?_
  refine z_iload_n dX4_set_0 rfl rfl ?_
  refine z_iload_n dX4_set_1 rfl rfl ?_
  refine z_cSi (m_takes μ _ _) q_X4_takes tw_600 dX4_set_2 rfl rfl (by omega) (Nat.le_of_ble_eq_true rfl) ?_
  refine z_bne (tgt := 11) dX4_set_5 (by decide) (fun h => ?_) (fun h => ?_)
  · obtain ⟨j, hj, e⟩ := takes_ix h
    refine z_aload_n dX4_set_11 rfl rfl ?_
    refine zg_X4_at dX4_set_12 tw_552 ?_
    refine z_iconst (v := 2) dX4_set_15 (by decide) ?_
    refine z_iload_n dX4_set_16 rfl rfl ?_
    refine z_iadd dX4_set_17 ?_
    refine z_iald dX4_set_18 (fun _ _ => rfl) (show 2 + s = nI (2 + j) by rw [e]; exact nI_add 2 j) (show 2 + j < 2386 by omega) ?_
    refine z_istS_n dX4_set_19 rfl (by decide) rfl ?_
    refine z_aload_n dX4_set_20 rfl rfl ?_
    refine zg_X4_at dX4_set_21 tw_552 ?_
    refine z_iconst (v := 2) dX4_set_24 (by decide) ?_
    refine z_iload_n dX4_set_25 rfl rfl ?_
    refine z_iadd dX4_set_26 ?_
    refine z_iload_n dX4_set_27 rfl rfl ?_
    refine z_iast dX4_set_28 (fun _ _ => rfl) (show 2 + s = nI (2 + j) by rw [e]; exact nI_add 2 j) (show 2 + j < 2386 by omega) ?_
    refine z_iload_n dX4_set_29 rfl rfl ?_
    refine z_iret hR dX4_set_30 (⟨_, rfl, Or.inl ⟨j, hj, e, h, rfl, rfl⟩⟩)
  · refine z_ldc (v := -1000000002) dX4_set_8 tw_603 ?_
    refine z_iret hR dX4_set_10 (⟨_, rfl, Or.inr ⟨h, rfl, rfl⟩⟩)
theorem m_spin (μ : zM) (n : Nat) (hn : μ (21, 0, 0) 0 = nI n) (hn2 : 2 ≤ n) (hn12 : n ≤ 12) (x v : Int32) : zCs yX4_spin prog_6_method_14_code 4 (some .int) 3 [zR (20, 0, 0), zI x, zI v] μ (fun μ' w => (∃ r, r < n ∧ x = nI r ∧ (-1500 ≤ v ∧ v ≤ 1500) ∧ w = vel (aP (μ (21, 0, 0))) r ∧ μ' = st μ (21, 0, 0) (upd (μ (21, 0, 0)) (9 + r) (v * nI (2 * r + 1)))) ∨ ((¬ ∃ r, r < n ∧ x = nI r) ∧ w = -1000000001 ∨ (∃ r, r < n ∧ x = nI r) ∧ ¬ (-1500 ≤ v ∧ v ≤ 1500) ∧ w = -1000000002) ∧ μ' = μ) := by
  refine zCt.of "DyeTankModel" rfl (by decide +kernel) rfl (Nat.le_of_ble_eq_true rfl) (fun K hR => ?_)
  have v20 := zv_20
  have v21 := zv_21
  have v22 := zv_22
  have v23 := zv_23
  have v24 := zv_24
  have v25 := zv_25
  have v26 := zv_26
  have v27 := zv_27
  have v28 := zv_28
  refine z_ls (ls' := [zR (20, 0, 0), zI x, zI v, zN]) rfl ?_
  refine z_aload_n dX4_spin_0 rfl rfl ?_
  refine z_iload_n dX4_spin_1 rfl rfl ?_
  refine z_cVi (m_isRing μ _) q_X4_isRing tw_608 dX4_spin_2 rfl rfl rfl (by omega) (Nat.le_of_ble_eq_true rfl) ?_
  refine z_bne (tgt := 11) dX4_spin_5 (by decide) (fun h => ?_) (fun h => ?_)
  · rw [hn, rngP (by omega) (by omega)] at h
    refine z_iload_n dX4_spin_11 rfl rfl ?_
    refine z_cSi (m_isVelocity μ _) q_X4_isVelocity tw_613 dX4_spin_12 rfl rfl (by omega) (Nat.le_of_ble_eq_true rfl) ?_
    refine z_bne (tgt := 21) dX4_spin_15 (by decide) (fun h2 => ?_) (fun h2 => ?_)
    · obtain ⟨r, hr, e⟩ := h
      subst e
      refine z_aload_n dX4_spin_21 rfl rfl ?_
      refine z_iload_n dX4_spin_22 rfl rfl ?_
      refine z_cVi (m_velocity μ r (by omega)) q_X4_velocity tw_616 dX4_spin_23 rfl rfl rfl (by omega) (Nat.le_of_ble_eq_true rfl) ?_
      refine z_istS_n dX4_spin_26 rfl (by decide) rfl ?_
      refine z_aload_n dX4_spin_27 rfl rfl ?_
      refine zg_X4_at dX4_spin_28 tw_552 ?_
      refine z_bipush (v := 9) dX4_spin_31 (by decide) ?_
      refine z_iload_n dX4_spin_33 rfl rfl ?_
      refine z_iadd dX4_spin_34 ?_
      refine z_iload_n dX4_spin_35 rfl rfl ?_
      refine z_iconst (v := 2) dX4_spin_36 (by decide) ?_
      refine z_iload_n dX4_spin_37 rfl rfl ?_
      refine z_imul dX4_spin_38 ?_
      refine z_iconst (v := 1) dX4_spin_39 (by decide) ?_
      refine z_iadd dX4_spin_40 ?_
      refine z_top ((wt_eq r)) ?_
      refine z_imul dX4_spin_41 ?_
      refine z_iast dX4_spin_42 (fun _ _ => rfl) (nI_add 9 r) (show 9 + r < 2386 by omega) ?_
      refine z_iload_n dX4_spin_43 rfl rfl ?_
      refine z_iret hR dX4_spin_44 (⟨_, rfl, Or.inl ⟨r, hr, rfl, h2, rfl, rfl⟩⟩)
    · refine z_ldc (v := -1000000002) dX4_spin_18 tw_603 ?_
      refine z_iret hR dX4_spin_20 (⟨_, rfl, Or.inr ⟨Or.inr ⟨h, h2, rfl⟩, rfl⟩⟩)
  · rw [hn, rngP (by omega) (by omega)] at h
    refine z_ldc (v := -1000000001) dX4_spin_8 tw_612 ?_
    refine z_iret hR dX4_spin_10 (⟨_, rfl, Or.inr ⟨Or.inl ⟨h, rfl⟩, rfl⟩⟩)
theorem m_spinAll (μ : zM) (n : Nat) (hn : μ (21, 0, 0) 0 = nI n) (hn2 : 2 ≤ n) (hn12 : n ≤ 12) (x y : Int32) : zCs yX4_spinAll prog_6_method_16_code 4 (some .int) 3 [zR (20, 0, 0), zI x, zI y] μ (fun μ' w => ((-1500 ≤ x ∧ x ≤ 1500) ∧ (-1500 ≤ y ∧ y ≤ 1500) ∧ w = sm (aP (μ' (21, 0, 0))) n ∧ μ' = st μ (21, 0, 0) (rg 9 12 (fun j => if j < n then gvl x y n j else aP (μ (21, 0, 0)) j) (μ (21, 0, 0)))) ∨ ¬ ((-1500 ≤ x ∧ x ≤ 1500) ∧ (-1500 ≤ y ∧ y ≤ 1500)) ∧ w = -1000000002 ∧ μ' = μ) := by
  refine zCt.of "DyeTankModel" rfl (by decide +kernel) rfl (Nat.le_of_ble_eq_true rfl) (fun K hR => ?_)
  have v20 := zv_20
  have v21 := zv_21
  have v22 := zv_22
  have v23 := zv_23
  have v24 := zv_24
  have v25 := zv_25
  have v26 := zv_26
  have v27 := zv_27
  have v28 := zv_28
  have loop : (-1500 ≤ x ∧ x ≤ 1500) → (-1500 ≤ y ∧ y ≤ 1500) → ∀ (f i : Nat) (μ' : zM), i ≤ n → n < i + f → μ' = st μ (21, 0, 0) (rg 9 12 (fun j => if j < i then gvl x y n j else aP (μ (21, 0, 0)) j) (μ (21, 0, 0))) → Z K 3 "DyeTankModel" prog_6_method_16_code 4 19 [zR (20, 0, 0), zI x, zI y, zI (nI i)] [] μ' := by
    intro hx hy
    intro f
    induction f with
    | zero => intro i μ' h1 h2 h3; exact absurd ‹_ < _ + 0› (by omega)
    | succ f ih =>
      intro i μ' h1 h2 e
      have e0 : μ' (21, 0, 0) 0 = nI n := by rw [e, st_eq, rg_out (by omega)]; exact hn
      refine z_iload_n dX4_spinAll_19 rfl rfl ?_
      refine z_aload_n dX4_spinAll_20 rfl rfl ?_
      refine zg_X4_at dX4_spinAll_21 tw_552 ?_
      refine z_iconst (v := 0) dX4_spinAll_24 (by decide) ?_
      refine z_iald dX4_spinAll_25 (fun _ _ => rfl) rfl (i := 0) (by decide) ?_
      refine z_top ((show _ = nI n from e0)) ?_
      refine z_icmp_ge (tgt := 66) dX4_spinAll_26 (by decide) (fun hb => ?_) (fun hb => ?_)
      · have hb := nle hb
        have e9 : i = n := by omega
        subst e9
        refine z_aload_n dX4_spinAll_66 rfl rfl ?_
        refine z_cVi (m_momenta μ' i e0 hn12) q_X4_momenta tw_627 dX4_spinAll_67 rfl rfl rfl (by omega) (Nat.le_of_ble_eq_true rfl) ?_
        refine z_iret hR dX4_spinAll_70 (⟨_, rfl, Or.inl ⟨hx, hy, rfl, e⟩⟩)
      · have hb := nnle hb
        refine z_aload_n dX4_spinAll_29 rfl rfl ?_
        refine zg_X4_at dX4_spinAll_30 tw_552 ?_
        refine z_bipush (v := 9) dX4_spinAll_33 (by decide) ?_
        refine z_iload_n dX4_spinAll_35 rfl rfl ?_
        refine z_iadd dX4_spinAll_36 ?_
        refine z_top ((nI_add 9 i)) ?_
        refine z_iload_n dX4_spinAll_37 rfl rfl ?_
        refine z_iload_n dX4_spinAll_38 rfl rfl ?_
        refine z_iload_n dX4_spinAll_39 rfl rfl ?_
        refine z_isub dX4_spinAll_40 ?_
        refine z_iload_n dX4_spinAll_41 rfl rfl ?_
        refine z_imul dX4_spinAll_42 ?_
        refine z_aload_n dX4_spinAll_43 rfl rfl ?_
        refine zg_X4_at dX4_spinAll_44 tw_552 ?_
        refine z_iconst (v := 0) dX4_spinAll_47 (by decide) ?_
        refine z_iald dX4_spinAll_48 (fun _ _ => rfl) rfl (i := 0) (by decide) ?_
        refine z_top ((show _ = nI n from e0)) ?_
        refine z_iconst (v := 1) dX4_spinAll_49 (by decide) ?_
        refine z_isub dX4_spinAll_50 ?_
        refine z_top ((show nI n - 1 = nI (n - 1) from by obtain ⟨m, rfl⟩ : ∃ m, n = m + 1 := ⟨n - 1, by omega⟩; exact nI_pred m)) ?_
        refine z_idiv dX4_spinAll_51 (nI_ne0 (by omega) (by omega)) ?_
        refine z_iadd dX4_spinAll_52 ?_
        refine z_iconst (v := 2) dX4_spinAll_53 (by decide) ?_
        refine z_iload_n dX4_spinAll_54 rfl rfl ?_
        refine z_imul dX4_spinAll_55 ?_
        refine z_iconst (v := 1) dX4_spinAll_56 (by decide) ?_
        refine z_iadd dX4_spinAll_57 ?_
        refine z_top ((show nI 2 * nI i + nI 1 = nI (2 * i + 1) by rw [pk_mul, nI_add])) ?_
        refine z_imul dX4_spinAll_58 ?_
        refine z_iast dX4_spinAll_59 (fun _ _ => rfl) rfl (show 9 + i < 2386 by omega) ?_
        refine z_incS dX4_spinAll_60 rfl (inc1 _) (by decide) rfl ?_
        refine z_goto (tgt := 19) dX4_spinAll_63 (by decide) ?_
        refine ih (i + 1) _ (by omega) (by omega) ?_
        rw [e, st_eq, st_st, rg_upd (show i < 12 by omega)]
        congr 1
        congr 1
        exact pre_upd (f := fun j => gvl x y n j) rfl
  refine z_ls (ls' := [zR (20, 0, 0), zI x, zI y, zN]) rfl ?_
  refine z_iload_n dX4_spinAll_0 rfl rfl ?_
  refine z_cSi (m_isVelocity μ _) q_X4_isVelocity tw_613 dX4_spinAll_1 rfl rfl (by omega) (Nat.le_of_ble_eq_true rfl) ?_
  refine z_beq (tgt := 14) dX4_spinAll_4 (by decide) (fun h => ?_) (fun h => ?_)
  · refine z_ldc (v := -1000000002) dX4_spinAll_14 tw_603 ?_
    refine z_iret hR dX4_spinAll_16 (⟨_, rfl, Or.inr ⟨fun q => h q.1, rfl, rfl⟩⟩)
  · refine z_iload_n dX4_spinAll_7 rfl rfl ?_
    refine z_cSi (m_isVelocity μ _) q_X4_isVelocity tw_613 dX4_spinAll_8 rfl rfl (by omega) (Nat.le_of_ble_eq_true rfl) ?_
    refine z_bne (tgt := 17) dX4_spinAll_11 (by decide) (fun h2 => ?_) (fun h2 => ?_)
    · refine z_iconst (v := 0) dX4_spinAll_17 (by decide) ?_
      refine z_istS_n dX4_spinAll_18 rfl (by decide) rfl ?_
      refine loop h h2 (n + 1) 0 μ (by omega) (by omega) ?_
      refine Eq.symm (Eq.trans (congrArg (st μ (21, 0, 0)) (rg_self (fun j hj => ?_))) (st_self _ _))
      rw [if_neg (by omega)]
      rfl
    · refine z_ldc (v := -1000000002) dX4_spinAll_14 tw_603 ?_
      refine z_iret hR dX4_spinAll_16 (⟨_, rfl, Or.inr ⟨fun q => h2 q.2, rfl, rfl⟩⟩)
/-- an amount in the calls' words -/
theorem fmd_ex (x : Int32) {m : Nat} (hm : 0 < m) (h : m < 2 ^ 31) : ∃ j, j < m ∧ fmd x (nI m) = nI j := by
  have h0 := nI_toInt h
  obtain ⟨c, h1, h2⟩ := fmv_nat (a := x) (m := nI m) (by rw [h0]; omega)
  rw [h0] at h2
  exact ⟨c, by omega, by rw [fmd_fmv (by rw [h0]; omega)]; exact h1⟩
def cel (a : Nat → Int32) (r : Nat) (s : Int32) : Nat := (fmd (s - aA a r / 150) 24).toNatClampNeg
theorem cel_eq (a : Nat → Int32) (r : Nat) (s : Int32) : cel a r s < 24 ∧ fmd (s - aA a r / 150) 24 = nI (cel a r s) := by
  obtain ⟨j, hj, e⟩ := fmd_ex (s - aA a r / 150) (m := 24) (by omega) (by omega)
  have e' : fmd (s - aA a r / 150) 24 = nI j := e
  unfold cel
  rw [e', nI_clamp (by omega)]
  exact ⟨hj, rfl⟩
abbrev isPl (n : Nat) (c L r s : Int32) : Prop := (0 ≤ c ∧ c ≤ 2) ∧ (0 ≤ L ∧ L ≤ 1) ∧ (0 ≤ r ∧ r ≤ nI n - 1) ∧ (0 ≤ s ∧ s ≤ 23)
theorem isPl_ix {n : Nat} {c L r s : Int32} (hn : 1 ≤ n) (hn12 : n ≤ 12) (h : isPl n c L r s) : ∃ c' L' r' : Nat, c' < 3 ∧ L' < 2 ∧ r' < n ∧ c = nI c' ∧ L = nI L' ∧ r = nI r' := by
  obtain ⟨hc, hL, hr, _⟩ := h
  obtain ⟨c', h1, e1⟩ := (rngP (n := 3) (by omega) (by omega)).mp hc
  obtain ⟨L', h2, e2⟩ := (rngP (n := 2) (by omega) (by omega)).mp hL
  obtain ⟨r', h3, e3⟩ := (rngP (n := n) (by omega) (by omega)).mp hr
  exact ⟨c', L', r', h1, h2, h3, e1, e2, e3⟩
def dix (c L r j : Nat) : Nat := 658 + (576 * c + (rwi L r + j))
theorem dix_lt {c L r j : Nat} (hc : c < 3) (hL : L < 2) (hr : r < 12) (hj : j < 24) : dix c L r j < 2386 := by
  unfold dix rwi
  omega
theorem m_pour (μ : zM) (n : Nat) (hn : μ (21, 0, 0) 0 = nI n) (hn2 : 2 ≤ n) (hn12 : n ≤ 12) (c L r s m : Int32) : zCs yX4_pour prog_6_method_22_code 7 (some .int) 4 [zR (20, 0, 0), zI c, zI L, zI r, zI s, zI m] μ (fun μ' w => (¬ isPl n c L r s ∧ w = -1 ∧ μ' = μ) ∨ (isPl n c L r s ∧ ¬ (1 ≤ m ∧ m ≤ 1000000) ∧ w = -2 ∧ μ' = μ) ∨ (isPl n c L r s ∧ (1 ≤ m ∧ m ≤ 1000000) ∧ ∃ c' L' r' : Nat, c' < 3 ∧ L' < 2 ∧ r' < n ∧ c = nI c' ∧ L = nI L' ∧ r = nI r' ∧ ((¬ allA (aD (μ (21, 0, 0)) c') n + m ≤ 10000000 ∧ w = -4 ∧ μ' = μ) ∨ (allA (aD (μ (21, 0, 0)) c') n + m ≤ 10000000 ∧ w = allA (aD (μ (21, 0, 0)) c') n + m ∧ μ' = st μ (21, 0, 0) (upd (μ (21, 0, 0)) (dix c' L' r' (cel (μ (21, 0, 0)) r' s)) (μ (21, 0, 0) (dix c' L' r' (cel (μ (21, 0, 0)) r' s)) + m)))))) := by
  refine zCt.of "DyeTankModel" rfl (by decide +kernel) rfl (Nat.le_of_ble_eq_true rfl) (fun K hR => ?_)
  have v20 := zv_20
  have v21 := zv_21
  have v22 := zv_22
  have v23 := zv_23
  have v24 := zv_24
  have v25 := zv_25
  have v26 := zv_26
  have v27 := zv_27
  have v28 := zv_28
  refine z_ls (ls' := [zR (20, 0, 0), zI c, zI L, zI r, zI s, zI m, zN]) rfl ?_
  refine z_aload_n dX4_pour_0 rfl rfl ?_
  refine z_iload_n dX4_pour_1 rfl rfl ?_
  refine z_iload_n dX4_pour_2 rfl rfl ?_
  refine z_iload_n dX4_pour_3 rfl rfl ?_
  refine z_iload dX4_pour_4 rfl ?_
  refine z_cVi (m_isPlace μ _ _ _ _) q_X4_isPlace tw_635 dX4_pour_6 rfl rfl rfl (by omega) (Nat.le_of_ble_eq_true rfl) ?_
  refine z_bne (tgt := 14) dX4_pour_9 (by decide) (fun h => ?_) (fun h => ?_)
  · rw [hn] at h
    refine z_iload dX4_pour_14 rfl ?_
    refine z_iconst (v := 1) dX4_pour_16 (by decide) ?_
    refine z_ldc (v := 1000000) dX4_pour_17 tw_639 ?_
    refine z_cSi (c_in μ _ _ _) q_X4_in tw_593 dX4_pour_19 rfl rfl (by omega) (Nat.le_of_ble_eq_true rfl) ?_
    refine z_bne (tgt := 28) dX4_pour_22 (by decide) (fun h2 => ?_) (fun h2 => ?_)
    · obtain ⟨c', L', r', h3, h4, h5, e1, e2, e3⟩ := isPl_ix (by omega) hn12 h
      have e1' := e1
      have e2' := e2
      have e3' := e3
      subst e1 e2 e3
      obtain ⟨hj, ej⟩ := cel_eq (μ (21, 0, 0)) r' s
      refine z_aload_n dX4_pour_28 rfl rfl ?_
      refine z_iload_n dX4_pour_29 rfl rfl ?_
      refine z_cVi (m_allOf μ n hn hn2 hn12 c' h3) q_X4_allOf tw_640 dX4_pour_30 rfl rfl rfl (by omega) (Nat.le_of_ble_eq_true rfl) ?_
      refine z_iload dX4_pour_33 rfl ?_
      refine z_iadd dX4_pour_35 ?_
      refine z_istS dX4_pour_36 (by decide) rfl ?_
      refine z_iload dX4_pour_38 rfl ?_
      refine z_ldc (v := 10000000) dX4_pour_40 tw_651 ?_
      refine z_icmp_le (tgt := 48) dX4_pour_42 (by decide) (fun hb => ?_) (fun hb => ?_)
      · refine z_aload_n dX4_pour_48 rfl rfl ?_
        refine zg_X4_at dX4_pour_49 tw_552 ?_
        refine z_sipush (v := 658) dX4_pour_52 (by decide) ?_
        refine z_iload_n dX4_pour_55 rfl rfl ?_
        refine z_iload_n dX4_pour_56 rfl rfl ?_
        refine z_iload_n dX4_pour_57 rfl rfl ?_
        refine z_aload_n dX4_pour_58 rfl rfl ?_
        refine z_iload_n dX4_pour_59 rfl rfl ?_
        refine z_iload dX4_pour_60 rfl ?_
        refine z_cVi (m_cellIn μ r' (by omega) s) q_X4_cellIn tw_652 dX4_pour_62 rfl rfl rfl (by omega) (Nat.le_of_ble_eq_true rfl) ?_
        refine z_top (ej) ?_
        refine z_cSi (m_dyeAt μ c' L' r' _) q_X4_dyeAt tw_648 dX4_pour_65 rfl rfl (by omega) (Nat.le_of_ble_eq_true rfl) ?_
        refine z_iadd dX4_pour_68 ?_
        refine z_dup2 dX4_pour_69 rfl rfl ?_
        refine z_iald dX4_pour_70 (fun _ _ => rfl) (nI_add 658 _) (dix_lt h3 h4 (by omega) hj) ?_
        refine z_iload dX4_pour_71 rfl ?_
        refine z_iadd dX4_pour_73 ?_
        refine z_iast dX4_pour_74 (fun _ _ => rfl) (nI_add 658 _) (dix_lt h3 h4 (by omega) hj) ?_
        refine z_iload dX4_pour_75 rfl ?_
        refine z_iret hR dX4_pour_77 (⟨_, rfl, Or.inr (Or.inr ⟨h, h2, c', L', r', h3, h4, h5, rfl, rfl, rfl, Or.inr ⟨hb, rfl, rfl⟩⟩)⟩)
      · refine z_bipush (v := -4) dX4_pour_45 (by decide) ?_
        refine z_iret hR dX4_pour_47 (⟨_, rfl, Or.inr (Or.inr ⟨h, h2, c', L', r', h3, h4, h5, rfl, rfl, rfl, Or.inl ⟨hb, rfl, rfl⟩⟩)⟩)
    · refine z_bipush (v := -2) dX4_pour_25 (by decide) ?_
      refine z_iret hR dX4_pour_27 (⟨_, rfl, Or.inr (Or.inl ⟨h, h2, rfl, rfl⟩)⟩)
  · rw [hn] at h
    refine z_iconst (v := -1) dX4_pour_12 (by decide) ?_
    refine z_iret hR dX4_pour_13 (⟨_, rfl, Or.inl ⟨h, rfl, rfl⟩⟩)
