/-! slots: the reference -/
theorem m_save (μ : zM) (x : Int32) : zCs yX4_save prog_6_method_67_code 3 (some .int) 2 [zR (20, 0, 0), zI x] μ (fun μ' w => (¬ (0 ≤ x ∧ x ≤ 1) ∧ w = -2 ∧ μ' = μ) ∨ ((0 ≤ x ∧ x ≤ 1) ∧ ∃ i : Nat, i < 2 ∧ x = nI i ∧ w = μ (21, 0, 0) 1 ∧ μ' = st (st μ (23, 0, 0) (rg (2386 * i) 2386 (μ (21, 0, 0)) (μ (23, 0, 0)))) (24, 0, 0) (upd (μ (24, 0, 0)) i 1))) := by
  refine zCt.of "DyeTankModel" rfl (by decide +kernel) rfl (Nat.le_of_ble_eq_true rfl) (fun K hR => ?_)
  have v20 := zv_20
  have v21 := zv_21
  have v22 := zv_22
  have v23 := zv_23
  have v24 := zv_24
  have v25 := zv_25
  have v26 := zv_26
  have v27 := zv_27
  have v28 := zv_28
  refine z_ls (ls' := [zR (20, 0, 0), zI x, zN]) rfl ?_
  refine z_iload_n dX4_save_0 rfl rfl ?_
  refine z_iconst (v := 0) dX4_save_1 (by decide) ?_
  refine z_iconst (v := 1) dX4_save_2 (by decide) ?_
  refine z_cSi (c_in μ _ _ _) q_X4_in tw_593 dX4_save_3 rfl rfl (by omega) (Nat.le_of_ble_eq_true rfl) ?_
  refine z_bne (tgt := 12) dX4_save_6 (by decide) (fun h => ?_) (fun h => ?_)
  · obtain ⟨i, hi, e⟩ : ∃ i : Nat, i < 2 ∧ x = nI i := (rngP (n := 2) (by omega) (by omega)).mp h
    subst e
    have loop : ∀ (f j : Nat) (μ' : zM), j ≤ 2386 → 2386 < j + f → μ' = st μ (23, 0, 0) (rg (2386 * i) 2386 (fun k => if k < j then μ (21, 0, 0) k else μ (23, 0, 0) (2386 * i + k)) (μ (23, 0, 0))) → Z K 2 "DyeTankModel" prog_6_method_67_code 3 14 [zR (20, 0, 0), zI (nI i), zI (nI j)] [] μ' := by
      intro f
      induction f with
      | zero => intro j μ' h1 h2 h3; exact absurd ‹_ < _ + 0› (by omega)
      | succ f ih =>
        intro j μ' h1 h2 eμ
        refine z_iload_n dX4_save_14 rfl rfl ?_
        refine z_sipush (v := 2386) dX4_save_15 (by decide) ?_
        refine z_icmp_ge (tgt := 45) dX4_save_18 (by decide) (fun hb => ?_) (fun hb => ?_)
        · have hb := nle (a := 2386) hb
          have e : j = 2386 := by omega
          subst e
          have eR : rg (2386 * i) 2386 (fun k => if k < 2386 then μ (21, 0, 0) k else μ (23, 0, 0) (2386 * i + k)) (μ (23, 0, 0)) = rg (2386 * i) 2386 (μ (21, 0, 0)) (μ (23, 0, 0)) := rg_congr (fun k hk => if_pos hk)
          rw [eR] at eμ
          refine z_aload_n dX4_save_45 rfl rfl ?_
          refine zg_X4_isSaved dX4_save_46 tw_555 ?_
          refine z_iload_n dX4_save_49 rfl rfl ?_
          refine z_iconst (v := 1) dX4_save_50 (by decide) ?_
          refine z_zast dX4_save_51 (fun _ _ => rfl) rfl (show i < 2 from hi) rfl ?_
          refine z_aload_n dX4_save_52 rfl rfl ?_
          refine zg_X4_at dX4_save_53 tw_552 ?_
          refine z_iconst (v := 1) dX4_save_56 (by decide) ?_
          refine z_iald dX4_save_57 (fun _ _ => rfl) rfl (i := 1) (by decide) ?_
          refine z_iret hR dX4_save_58 (⟨_, rfl, Or.inr ⟨h, i, hi, rfl, ?_, ?_⟩⟩)
          · rw [st_ne _ _ (by simp), eμ, st_ne _ _ (by simp)]
          · rw [eμ, st_ne _ _ (by simp)]
        · have hb := nnle (a := 2386) hb
          refine z_aload_n dX4_save_21 rfl rfl ?_
          refine zg_X4_slots dX4_save_22 tw_554 ?_
          refine z_sipush (v := 2386) dX4_save_25 (by decide) ?_
          refine z_iload_n dX4_save_28 rfl rfl ?_
          refine z_imul dX4_save_29 ?_
          refine z_top ((pk_mul 2386 i)) ?_
          refine z_iload_n dX4_save_30 rfl rfl ?_
          refine z_iadd dX4_save_31 ?_
          refine z_top ((nI_add (2386 * i) j)) ?_
          refine z_aload_n dX4_save_32 rfl rfl ?_
          refine zg_X4_at dX4_save_33 tw_552 ?_
          refine z_iload_n dX4_save_36 rfl rfl ?_
          refine z_iald dX4_save_37 (fun _ _ => rfl) rfl (show j < 2386 from hb) ?_
          refine z_top ((show _ = μ (21, 0, 0) j by rw [eμ, st_ne _ _ (by simp)])) ?_
          refine z_iast dX4_save_38 (fun _ _ => rfl) rfl (show 2386 * i + j < 4772 by omega) ?_
          refine z_incS dX4_save_39 rfl (inc1 _) (by decide) rfl ?_
          refine z_goto (tgt := 14) dX4_save_42 (by decide) ?_
          refine ih (j + 1) _ (by omega) (by omega) ?_
          rw [eμ, st_eq, st_st, rg_upd hb]
          congr 1
          congr 1
          exact pre_upd rfl
    refine z_iconst (v := 0) dX4_save_12 (by decide) ?_
    refine z_istS_n dX4_save_13 rfl (by decide) rfl ?_
    refine loop 2387 0 μ (by omega) (by omega) ?_
    refine Eq.symm (Eq.trans (congrArg (st μ (23, 0, 0)) (rg_self (fun j hj => ?_))) (st_self _ _))
    exact if_neg (by omega)
  · refine z_bipush (v := -2) dX4_save_9 (by decide) ?_
    refine z_iret hR dX4_save_11 (⟨_, rfl, Or.inl ⟨h, rfl, rfl⟩⟩)
theorem m_restore (μ : zM) (hb01 : ∀ i, i < 2 → μ (24, 0, 0) i = 0 ∨ μ (24, 0, 0) i = 1) (x : Int32) : zCs yX4_restore prog_6_method_68_code 3 (some .int) 2 [zR (20, 0, 0), zI x] μ (fun μ' w => (¬ (0 ≤ x ∧ x ≤ 1) ∧ w = -2 ∧ μ' = μ) ∨ ((0 ≤ x ∧ x ≤ 1) ∧ ∃ i : Nat, i < 2 ∧ x = nI i ∧ ((μ (24, 0, 0) i = 0 ∧ w = -5 ∧ μ' = μ) ∨ (¬ μ (24, 0, 0) i = 0 ∧ w = μ (23, 0, 0) (2386 * i + 1) ∧ μ' = st μ (21, 0, 0) (fun j => if j < 2386 then μ (23, 0, 0) (2386 * i + j) else μ (21, 0, 0) j))))) := by
  refine zCt.of "DyeTankModel" rfl (by decide +kernel) rfl (Nat.le_of_ble_eq_true rfl) (fun K hR => ?_)
  have v20 := zv_20
  have v21 := zv_21
  have v22 := zv_22
  have v23 := zv_23
  have v24 := zv_24
  have v25 := zv_25
  have v26 := zv_26
  have v27 := zv_27
  have v28 := zv_28
  refine z_ls (ls' := [zR (20, 0, 0), zI x, zN]) rfl ?_
  refine z_iload_n dX4_restore_0 rfl rfl ?_
  refine z_iconst (v := 0) dX4_restore_1 (by decide) ?_
  refine z_iconst (v := 1) dX4_restore_2 (by decide) ?_
  refine z_cSi (c_in μ _ _ _) q_X4_in tw_593 dX4_restore_3 rfl rfl (by omega) (Nat.le_of_ble_eq_true rfl) ?_
  refine z_bne (tgt := 12) dX4_restore_6 (by decide) (fun h => ?_) (fun h => ?_)
  · obtain ⟨i, hi, e⟩ : ∃ i : Nat, i < 2 ∧ x = nI i := (rngP (n := 2) (by omega) (by omega)).mp h
    subst e
    refine z_aload_n dX4_restore_12 rfl rfl ?_
    refine zg_X4_isSaved dX4_restore_13 tw_555 ?_
    refine z_iload_n dX4_restore_16 rfl rfl ?_
    refine z_zald dX4_restore_17 (fun _ _ => rfl) rfl (show i < 2 from hi) ?_
    refine z_if_ne (tgt := 24) dX4_restore_18 (by decide) (fun hz => ?_) (fun hz => ?_)
    · have loop : ∀ (f j : Nat), j ≤ 2386 → 2386 < j + f → Z K 2 "DyeTankModel" prog_6_method_68_code 3 26 [zR (20, 0, 0), zI (nI i), zI (nI j)] [] (st μ (21, 0, 0) (fun k => if k < j then μ (23, 0, 0) (2386 * i + k) else μ (21, 0, 0) k)) := by
        intro f
        induction f with
        | zero => intro j h1 h2; exact absurd ‹_ < _ + 0› (by omega)
        | succ f ih =>
          intro j h1 h2
          refine z_iload_n dX4_restore_26 rfl rfl ?_
          refine z_sipush (v := 2386) dX4_restore_27 (by decide) ?_
          refine z_icmp_ge (tgt := 57) dX4_restore_30 (by decide) (fun hb => ?_) (fun hb => ?_)
          · have hb := nle (a := 2386) hb
            have e : j = 2386 := by omega
            subst e
            refine z_aload_n dX4_restore_57 rfl rfl ?_
            refine zg_X4_at dX4_restore_58 tw_552 ?_
            refine z_iconst (v := 1) dX4_restore_61 (by decide) ?_
            refine z_iald dX4_restore_62 (fun _ _ => rfl) rfl (i := 1) (by decide) ?_
            refine z_iret hR dX4_restore_63 (⟨_, rfl, Or.inr ⟨h, i, hi, rfl, Or.inr ⟨hz, by rw [st_eq]; exact if_pos (by omega), rfl⟩⟩⟩)
          · have hb := nnle (a := 2386) hb
            refine z_aload_n dX4_restore_33 rfl rfl ?_
            refine zg_X4_at dX4_restore_34 tw_552 ?_
            refine z_iload_n dX4_restore_37 rfl rfl ?_
            refine z_aload_n dX4_restore_38 rfl rfl ?_
            refine zg_X4_slots dX4_restore_39 tw_554 ?_
            refine z_sipush (v := 2386) dX4_restore_42 (by decide) ?_
            refine z_iload_n dX4_restore_45 rfl rfl ?_
            refine z_imul dX4_restore_46 ?_
            refine z_top ((pk_mul 2386 i)) ?_
            refine z_iload_n dX4_restore_47 rfl rfl ?_
            refine z_iadd dX4_restore_48 ?_
            refine z_top ((nI_add (2386 * i) j)) ?_
            refine z_iald dX4_restore_49 (fun _ _ => rfl) rfl (show 2386 * i + j < 4772 by omega) ?_
            refine z_top ((show _ = μ (23, 0, 0) (2386 * i + j) by rw [st_ne _ _ (by simp)])) ?_
            refine z_iast dX4_restore_50 (fun _ _ => rfl) rfl (show j < 2386 from hb) ?_
            refine z_incS dX4_restore_51 rfl (inc1 _) (by decide) rfl ?_
            refine z_goto (tgt := 26) dX4_restore_54 (by decide) ?_
            refine z_mu ?_ (ih (j + 1) (by omega) (by omega))
            rw [st_upd]
            congr 1
            exact pre_upd (f := fun k => μ (23, 0, 0) (2386 * i + k)) rfl
      refine z_iconst (v := 0) dX4_restore_24 (by decide) ?_
      refine z_istS_n dX4_restore_25 rfl (by decide) rfl ?_
      refine z_mu ?_ (loop 2387 0 (by omega) (by omega))
      rw [pre_0 (f := fun k => μ (23, 0, 0) (2386 * i + k)), st_self]
    · refine z_bipush (v := -5) dX4_restore_21 (by decide) ?_
      refine z_iret hR dX4_restore_23 (⟨_, rfl, Or.inr ⟨h, i, hi, rfl, Or.inl ⟨hz, rfl, rfl⟩⟩⟩)
  · refine z_bipush (v := -2) dX4_restore_9 (by decide) ?_
    refine z_iret hR dX4_restore_11 (⟨_, rfl, Or.inl ⟨h, rfl, rfl⟩⟩)
