theorem lcmp_ge (x : Int64) : 0 ≤ lg_cmp x 0 ↔ 0 ≤ x := by
  unfold lg_cmp
  by_cases h1 : (0 : Int64) < x
  · rw [if_pos h1]
    exact ⟨fun _ => Int64.le_of_lt h1, fun _ => by decide⟩
  · rw [if_neg h1]
    by_cases h2 : x = 0
    · rw [if_pos h2, h2]
      exact ⟨fun _ => by decide, fun _ => by decide⟩
    · rw [if_neg h2]
      constructor
      · intro h
        exact absurd h (by decide)
      · intro h
        exact absurd (Int64.le_antisymm (Int64.not_lt.mp h1) h) h2
theorem m_cellsWith (μ : zM) (c : Nat) (hc : c < 3) : zCi yX4_cellsWith prog_6_method_33_code 4 (some .int) 2 [zR (20, 0, 0), zI (nI c)] μ (cnf (aD (μ (21, 0, 0)) c) 576) := by
  refine zCt.of "DyeTankModel" rfl (by decide +kernel) rfl (Nat.le_of_ble_eq_true rfl) (fun K hR => ?_)
  have v20 := zv_20
  have v21 := zv_21
  have v22 := zv_22
  have v23 := zv_23
  have v24 := zv_24
  have v25 := zv_25
  have v26 := zv_26
  have v27 := zv_27
  have v28 := zv_28
  have loop : ∀ (f i : Nat), i ≤ 576 → 576 < i + f → Z K 2 "DyeTankModel" prog_6_method_33_code 4 4 [zR (20, 0, 0), zI (nI c), zI (cnf (aD (μ (21, 0, 0)) c) i), zI (nI i)] [] μ := by
    intro f
    induction f with
    | zero => intro i h1 h2; exact absurd ‹_ < _ + 0› (by omega)
    | succ f ih =>
      intro i h1 h2
      refine z_iload_n dX4_cellsWith_4 rfl rfl ?_
      refine z_sipush (v := 576) dX4_cellsWith_5 (by decide) ?_
      refine z_icmp_ge (tgt := 46) dX4_cellsWith_8 (by decide) (fun hb => ?_) (fun hb => ?_)
      · have hb := nle (a := 576) hb
        have e : i = 576 := by omega
        subst e
        refine z_iload_n dX4_cellsWith_46 rfl rfl ?_
        refine z_iret hR dX4_cellsWith_47 (⟨rfl, rfl⟩)
      · have hb := nnle (a := 576) hb
        have hq : μ (21, 0, 0) (658 + (576 * c + (rwi 0 0 + 0)) + i) = aD (μ (21, 0, 0)) c i := by unfold aD rwi; congr 1
        have hidx : 658 + (576 * c + (rwi 0 0 + 0)) + i < 2386 := by unfold rwi; omega
        refine z_iload_n dX4_cellsWith_11 rfl rfl ?_
        refine z_aload_n dX4_cellsWith_12 rfl rfl ?_
        refine zg_X4_at dX4_cellsWith_13 tw_552 ?_
        refine z_sipush (v := 658) dX4_cellsWith_16 (by decide) ?_
        refine z_iload_n dX4_cellsWith_19 rfl rfl ?_
        refine z_iconst (v := 0) dX4_cellsWith_20 (by decide) ?_
        refine z_iconst (v := 0) dX4_cellsWith_21 (by decide) ?_
        refine z_iconst (v := 0) dX4_cellsWith_22 (by decide) ?_
        refine z_cSi (m_dyeAt μ c 0 0 0) q_X4_dyeAt tw_648 dX4_cellsWith_23 rfl rfl (by omega) (Nat.le_of_ble_eq_true rfl) ?_
        refine z_iadd dX4_cellsWith_26 ?_
        refine z_top ((nI_add 658 _)) ?_
        refine z_iload_n dX4_cellsWith_27 rfl rfl ?_
        refine z_iadd dX4_cellsWith_28 ?_
        refine z_iald dX4_cellsWith_29 (fun _ _ => rfl) (nI_add _ i) hidx ?_
        refine z_top (hq) ?_
        refine z_if_le (tgt := 37) dX4_cellsWith_30 (by decide) (fun hz => ?_) (fun hz => ?_)
        · refine z_iconst (v := 0) dX4_cellsWith_37 (by decide) ?_
          refine z_iadd dX4_cellsWith_38 ?_
          refine z_istS_n dX4_cellsWith_39 rfl (by decide) rfl ?_
          refine z_incS dX4_cellsWith_40 rfl (inc1 _) (by decide) rfl ?_
          refine z_goto (tgt := 4) dX4_cellsWith_43 (by decide) ?_
          have e : cnf (aD (μ (21, 0, 0)) c) (i + 1) = cnf (aD (μ (21, 0, 0)) c) i + 0 := by rw [Int32.add_zero]; exact if_neg (Int32.not_lt.mpr hz)
          have := ih (i + 1) (by omega) (by omega)
          rw [e] at this
          exact this
        · refine z_iconst (v := 1) dX4_cellsWith_33 (by decide) ?_
          refine z_goto (tgt := 38) dX4_cellsWith_34 (by decide) ?_
          refine z_iadd dX4_cellsWith_38 ?_
          refine z_istS_n dX4_cellsWith_39 rfl (by decide) rfl ?_
          refine z_incS dX4_cellsWith_40 rfl (inc1 _) (by decide) rfl ?_
          refine z_goto (tgt := 4) dX4_cellsWith_43 (by decide) ?_
          have e : cnf (aD (μ (21, 0, 0)) c) (i + 1) = cnf (aD (μ (21, 0, 0)) c) i + 1 := if_pos (Int32.not_le.mp hz)
          have := ih (i + 1) (by omega) (by omega)
          rw [e] at this
          exact this
  refine z_ls (ls' := [zR (20, 0, 0), zI (nI c), zN, zN]) rfl ?_
  refine z_iconst (v := 0) dX4_cellsWith_0 (by decide) ?_
  refine z_istS_n dX4_cellsWith_1 rfl (by decide) rfl ?_
  refine z_iconst (v := 0) dX4_cellsWith_2 (by decide) ?_
  refine z_istS_n dX4_cellsWith_3 rfl (by decide) rfl ?_
  exact loop 577 0 (by omega) (by omega)
theorem m_greatest (μ : zM) (c : Nat) (hc : c < 3) : zCi yX4_greatest prog_6_method_34_code 5 (some .int) 2 [zR (20, 0, 0), zI (nI c)] μ (mxf (aD (μ (21, 0, 0)) c) 576) := by
  refine zCt.of "DyeTankModel" rfl (by decide +kernel) rfl (Nat.le_of_ble_eq_true rfl) (fun K hR => ?_)
  have v20 := zv_20
  have v21 := zv_21
  have v22 := zv_22
  have v23 := zv_23
  have v24 := zv_24
  have v25 := zv_25
  have v26 := zv_26
  have v27 := zv_27
  have v28 := zv_28
  have loop : ∀ (f i : Nat) (x4 : zV), i ≤ 576 → 576 < i + f → Z K 2 "DyeTankModel" prog_6_method_34_code 5 4 [zR (20, 0, 0), zI (nI c), zI (mxf (aD (μ (21, 0, 0)) c) i), zI (nI i), x4] [] μ := by
    intro f
    induction f with
    | zero => intro i x4 h1 h2; exact absurd ‹_ < _ + 0› (by omega)
    | succ f ih =>
      intro i x4 h1 h2
      refine z_iload_n dX4_greatest_4 rfl rfl ?_
      refine z_sipush (v := 576) dX4_greatest_5 (by decide) ?_
      refine z_icmp_ge (tgt := 50) dX4_greatest_8 (by decide) (fun hb => ?_) (fun hb => ?_)
      · have hb := nle (a := 576) hb
        have e : i = 576 := by omega
        subst e
        refine z_iload_n dX4_greatest_50 rfl rfl ?_
        refine z_iret hR dX4_greatest_51 (⟨rfl, rfl⟩)
      · have hb := nnle (a := 576) hb
        have hq : μ (21, 0, 0) (658 + (576 * c + (rwi 0 0 + 0)) + i) = aD (μ (21, 0, 0)) c i := by unfold aD rwi; congr 1
        have hidx : 658 + (576 * c + (rwi 0 0 + 0)) + i < 2386 := by unfold rwi; omega
        refine z_aload_n dX4_greatest_11 rfl rfl ?_
        refine zg_X4_at dX4_greatest_12 tw_552 ?_
        refine z_sipush (v := 658) dX4_greatest_15 (by decide) ?_
        refine z_iload_n dX4_greatest_18 rfl rfl ?_
        refine z_iconst (v := 0) dX4_greatest_19 (by decide) ?_
        refine z_iconst (v := 0) dX4_greatest_20 (by decide) ?_
        refine z_iconst (v := 0) dX4_greatest_21 (by decide) ?_
        refine z_cSi (m_dyeAt μ c 0 0 0) q_X4_dyeAt tw_648 dX4_greatest_22 rfl rfl (by omega) (Nat.le_of_ble_eq_true rfl) ?_
        refine z_iadd dX4_greatest_25 ?_
        refine z_top ((nI_add 658 _)) ?_
        refine z_iload_n dX4_greatest_26 rfl rfl ?_
        refine z_iadd dX4_greatest_27 ?_
        refine z_iald dX4_greatest_28 (fun _ _ => rfl) (nI_add _ i) hidx ?_
        refine z_top (hq) ?_
        refine z_istS dX4_greatest_29 (by decide) rfl ?_
        refine z_iload dX4_greatest_31 rfl ?_
        refine z_iload_n dX4_greatest_33 rfl rfl ?_
        refine z_icmp_le (tgt := 42) dX4_greatest_34 (by decide) (fun hz => ?_) (fun hz => ?_)
        · refine z_iload_n dX4_greatest_42 rfl rfl ?_
          refine z_istS_n dX4_greatest_43 rfl (by decide) rfl ?_
          refine z_incS dX4_greatest_44 rfl (inc1 _) (by decide) rfl ?_
          refine z_goto (tgt := 4) dX4_greatest_47 (by decide) ?_
          have e : mxf (aD (μ (21, 0, 0)) c) (i + 1) = mxf (aD (μ (21, 0, 0)) c) i := if_neg (Int32.not_lt.mpr hz)
          have := ih (i + 1) (zI (aD (μ (21, 0, 0)) c i)) (by omega) (by omega)
          rw [e] at this
          exact this
        · refine z_iload dX4_greatest_37 rfl ?_
          refine z_goto (tgt := 43) dX4_greatest_39 (by decide) ?_
          refine z_istS_n dX4_greatest_43 rfl (by decide) rfl ?_
          refine z_incS dX4_greatest_44 rfl (inc1 _) (by decide) rfl ?_
          refine z_goto (tgt := 4) dX4_greatest_47 (by decide) ?_
          have e : mxf (aD (μ (21, 0, 0)) c) (i + 1) = aD (μ (21, 0, 0)) c i := if_pos (Int32.not_le.mp hz)
          have := ih (i + 1) (zI (aD (μ (21, 0, 0)) c i)) (by omega) (by omega)
          rw [e] at this
          exact this
  refine z_ls (ls' := [zR (20, 0, 0), zI (nI c), zN, zN, zN]) rfl ?_
  refine z_iconst (v := 0) dX4_greatest_0 (by decide) ?_
  refine z_istS_n dX4_greatest_1 rfl (by decide) rfl ?_
  refine z_iconst (v := 0) dX4_greatest_2 (by decide) ?_
  refine z_istS_n dX4_greatest_3 rfl (by decide) rfl ?_
  exact loop 577 0 zN (by omega) (by omega)
theorem m_meanPlace (μ : zM) (n : Nat) (hn : μ (21, 0, 0) 0 = nI n) (hn2 : 2 ≤ n) (hn12 : n ≤ 12) (c : Nat) (hc : c < 3) : zCl yX4_meanPlace prog_6_method_35_code 5 (some .long) 4 [zR (20, 0, 0), zI (nI c)] μ (meanP (aD (μ (21, 0, 0)) c) n (allA (aD (μ (21, 0, 0)) c) n)) := by
  refine zCt.of "DyeTankModel" rfl (by decide +kernel) rfl (Nat.le_of_ble_eq_true rfl) (fun K hR => ?_)
  have v20 := zv_20
  have v21 := zv_21
  have v22 := zv_22
  have v23 := zv_23
  have v24 := zv_24
  have v25 := zv_25
  have v26 := zv_26
  have v27 := zv_27
  have v28 := zv_28
  have loop : ∀ (f i : Nat), i ≤ n → n < i + f → Z K 4 "DyeTankModel" prog_6_method_35_code 5 5 [zR (20, 0, 0), zI (nI c), zL (sml (fun r => (nI r).toInt64 * (ringS (aD (μ (21, 0, 0)) c) r).toInt64) i), zN, zI (nI i)] [] μ := by
    intro f
    induction f with
    | zero => intro i h1 h2; exact absurd ‹_ < _ + 0› (by omega)
    | succ f ih =>
      intro i h1 h2
      refine z_iload dX4_meanPlace_5 rfl ?_
      refine z_aload_n dX4_meanPlace_7 rfl rfl ?_
      refine zg_X4_at dX4_meanPlace_8 tw_552 ?_
      refine z_iconst (v := 0) dX4_meanPlace_11 (by decide) ?_
      refine z_iald dX4_meanPlace_12 (fun _ _ => rfl) rfl (i := 0) (by decide) ?_
      refine z_top (hn) ?_
      refine z_icmp_ge (tgt := 51) dX4_meanPlace_13 (by decide) (fun hb => ?_) (fun hb => ?_)
      · have hb := nle hb
        have e : i = n := by omega
        subst e
        refine z_aload_n dX4_meanPlace_51 rfl rfl ?_
        refine z_iload_n dX4_meanPlace_52 rfl rfl ?_
        refine z_cVi (m_allOf μ i hn hn2 hn12 c hc) q_X4_allOf tw_640 dX4_meanPlace_53 rfl rfl rfl (by omega) (Nat.le_of_ble_eq_true rfl) ?_
        refine z_istS dX4_meanPlace_56 (by decide) rfl ?_
        refine z_iload dX4_meanPlace_58 rfl ?_
        refine z_if_ne (tgt := 69) dX4_meanPlace_60 (by decide) (fun h0 => ?_) (fun h0 => ?_)
        · refine z_ldc2 (v := 1000) dX4_meanPlace_69 tw_684 ?_
          refine z_lload_n dX4_meanPlace_72 rfl rfl ?_
          refine z_lmul dX4_meanPlace_73 ?_
          refine z_iload dX4_meanPlace_74 rfl ?_
          refine z_i2l dX4_meanPlace_76 ?_
          refine z_ldiv dX4_meanPlace_77 (toI64_ne h0) ?_
          refine z_lret hR dX4_meanPlace_78 (⟨rfl, by rw [meanP, if_neg h0]⟩)
        · refine z_ldc2 (v := -6) dX4_meanPlace_63 tw_722 ?_
          refine z_goto (tgt := 78) dX4_meanPlace_66 (by decide) ?_
          refine z_lret hR dX4_meanPlace_78 (⟨rfl, by rw [meanP, if_pos h0]⟩)
      · have hb := nnle hb
        refine z_lload_n dX4_meanPlace_16 rfl rfl ?_
        refine z_iload dX4_meanPlace_17 rfl ?_
        refine z_i2l dX4_meanPlace_19 ?_
        refine z_aload_n dX4_meanPlace_20 rfl rfl ?_
        refine z_iload_n dX4_meanPlace_21 rfl rfl ?_
        refine z_iconst (v := 0) dX4_meanPlace_22 (by decide) ?_
        refine z_iload dX4_meanPlace_23 rfl ?_
        refine z_iload dX4_meanPlace_25 rfl ?_
        refine z_cVi (m_amountOf μ c 0 i i hc (by decide) (by omega) (by omega)) q_X4_amountOf tw_644 dX4_meanPlace_27 rfl rfl rfl (by omega) (Nat.le_of_ble_eq_true rfl) ?_
        refine z_top ((sm_one _ i)) ?_
        refine z_aload_n dX4_meanPlace_30 rfl rfl ?_
        refine z_iload_n dX4_meanPlace_31 rfl rfl ?_
        refine z_iconst (v := 1) dX4_meanPlace_32 (by decide) ?_
        refine z_iload dX4_meanPlace_33 rfl ?_
        refine z_iload dX4_meanPlace_35 rfl ?_
        refine z_cVi (m_amountOf μ c 1 i i hc (by decide) (by omega) (by omega)) q_X4_amountOf tw_644 dX4_meanPlace_37 rfl rfl rfl (by omega) (Nat.le_of_ble_eq_true rfl) ?_
        refine z_top ((sm_one _ i)) ?_
        refine z_iadd dX4_meanPlace_40 ?_
        refine z_i2l dX4_meanPlace_41 ?_
        refine z_lmul dX4_meanPlace_42 ?_
        refine z_ladd dX4_meanPlace_43 ?_
        refine z_lstS_n dX4_meanPlace_44 rfl (by decide) rfl ?_
        refine z_incS dX4_meanPlace_45 rfl (inc1 _) (by decide) rfl ?_
        refine z_goto (tgt := 5) dX4_meanPlace_48 (by decide) ?_
        exact ih (i + 1) (by omega) (by omega)
  refine z_ls (ls' := [zR (20, 0, 0), zI (nI c), zN, zN, zN]) rfl ?_
  refine z_lconst (v := 0) dX4_meanPlace_0 (by decide) ?_
  refine z_lstS_n dX4_meanPlace_1 rfl (by decide) rfl ?_
  refine z_iconst (v := 0) dX4_meanPlace_2 (by decide) ?_
  refine z_istS dX4_meanPlace_3 (by decide) rfl ?_
  exact loop (n + 1) 0 (by omega) (by omega)
theorem m_greatestShear (μ : zM) (n : Nat) (hn : μ (21, 0, 0) 0 = nI n) (hn2 : 2 ≤ n) (hn12 : n ≤ 12) : zCi yX4_greatestShear prog_6_method_39_code 4 (some .int) 3 [zR (20, 0, 0)] μ (mxf (fun r => absI (vel (aP (μ (21, 0, 0))) r - vel (aP (μ (21, 0, 0))) (r + 1))) (n - 1)) := by
  refine zCt.of "DyeTankModel" rfl (by decide +kernel) rfl (Nat.le_of_ble_eq_true rfl) (fun K hR => ?_)
  have v20 := zv_20
  have v21 := zv_21
  have v22 := zv_22
  have v23 := zv_23
  have v24 := zv_24
  have v25 := zv_25
  have v26 := zv_26
  have v27 := zv_27
  have v28 := zv_28
  have loop : ∀ (f i : Nat) (x3 : zV), i ≤ n - 1 → n - 1 < i + f → Z K 3 "DyeTankModel" prog_6_method_39_code 4 4 [zR (20, 0, 0), zI (mxf (fun r => absI (vel (aP (μ (21, 0, 0))) r - vel (aP (μ (21, 0, 0))) (r + 1))) i), zI (nI i), x3] [] μ := by
    intro f
    induction f with
    | zero => intro i x3 h1 h2; exact absurd ‹_ < _ + 0› (by omega)
    | succ f ih =>
      intro i x3 h1 h2
      refine z_iload_n dX4_greatestShear_4 rfl rfl ?_
      refine z_iconst (v := 1) dX4_greatestShear_5 (by decide) ?_
      refine z_iadd dX4_greatestShear_6 ?_
      refine z_top ((nI_1 i)) ?_
      refine z_aload_n dX4_greatestShear_7 rfl rfl ?_
      refine zg_X4_at dX4_greatestShear_8 tw_552 ?_
      refine z_iconst (v := 0) dX4_greatestShear_11 (by decide) ?_
      refine z_iald dX4_greatestShear_12 (fun _ _ => rfl) rfl (i := 0) (by decide) ?_
      refine z_top (hn) ?_
      refine z_icmp_ge (tgt := 58) dX4_greatestShear_13 (by decide) (fun hb => ?_) (fun hb => ?_)
      · have hb := nle hb
        have e : i = n - 1 := by omega
        rw [e]
        refine z_iload_n dX4_greatestShear_58 rfl rfl ?_
        refine z_iret hR dX4_greatestShear_59 (⟨rfl, rfl⟩)
      · have hb := nnle hb
        have fin : ∀ v, v = absI (vel (aP (μ (21, 0, 0))) i - vel (aP (μ (21, 0, 0))) (i + 1)) → Z K 3 "DyeTankModel" prog_6_method_39_code 4 40 [zR (20, 0, 0), zI (mxf (fun r => absI (vel (aP (μ (21, 0, 0))) r - vel (aP (μ (21, 0, 0))) (r + 1))) i), zI (nI i), zI (vel (aP (μ (21, 0, 0))) i - vel (aP (μ (21, 0, 0))) (i + 1))] [zI v] μ := by
          intro v hv
          refine z_istS_n dX4_greatestShear_40 rfl (by decide) rfl ?_
          refine z_iload_n dX4_greatestShear_41 rfl rfl ?_
          refine z_iload_n dX4_greatestShear_42 rfl rfl ?_
          refine z_icmp_le (tgt := 50) dX4_greatestShear_43 (by decide) (fun hz => ?_) (fun hz => ?_)
          · refine z_iload_n dX4_greatestShear_50 rfl rfl ?_
            refine z_istS_n dX4_greatestShear_51 rfl (by decide) rfl ?_
            refine z_incS dX4_greatestShear_52 rfl (inc1 _) (by decide) rfl ?_
            refine z_goto (tgt := 4) dX4_greatestShear_55 (by decide) ?_
            have e : mxf (fun r => absI (vel (aP (μ (21, 0, 0))) r - vel (aP (μ (21, 0, 0))) (r + 1))) (i + 1) = mxf (fun r => absI (vel (aP (μ (21, 0, 0))) r - vel (aP (μ (21, 0, 0))) (r + 1))) i := if_neg (by show ¬ _ < absI _; rw [← hv, Int32.not_lt]; exact hz)
            have := ih (i + 1) (zI v) (by omega) (by omega)
            rw [e] at this
            exact this
          · refine z_iload_n dX4_greatestShear_46 rfl rfl ?_
            refine z_goto (tgt := 51) dX4_greatestShear_47 (by decide) ?_
            refine z_istS_n dX4_greatestShear_51 rfl (by decide) rfl ?_
            refine z_incS dX4_greatestShear_52 rfl (inc1 _) (by decide) rfl ?_
            refine z_goto (tgt := 4) dX4_greatestShear_55 (by decide) ?_
            have e : mxf (fun r => absI (vel (aP (μ (21, 0, 0))) r - vel (aP (μ (21, 0, 0))) (r + 1))) (i + 1) = v := by rw [hv]; exact if_pos (by show _ < absI _; rw [← hv]; exact Int32.not_le.mp hz)
            have := ih (i + 1) (zI v) (by omega) (by omega)
            rw [e] at this
            exact this
        refine z_aload_n dX4_greatestShear_16 rfl rfl ?_
        refine z_iload_n dX4_greatestShear_17 rfl rfl ?_
        refine z_cVi (m_velocity μ i (by omega)) q_X4_velocity tw_616 dX4_greatestShear_18 rfl rfl rfl (by omega) (Nat.le_of_ble_eq_true rfl) ?_
        refine z_aload_n dX4_greatestShear_21 rfl rfl ?_
        refine z_iload_n dX4_greatestShear_22 rfl rfl ?_
        refine z_iconst (v := 1) dX4_greatestShear_23 (by decide) ?_
        refine z_iadd dX4_greatestShear_24 ?_
        refine z_top ((nI_1 i)) ?_
        refine z_cVi (m_velocity μ (i + 1) (by omega)) q_X4_velocity tw_616 dX4_greatestShear_25 rfl rfl rfl (by omega) (Nat.le_of_ble_eq_true rfl) ?_
        refine z_isub dX4_greatestShear_28 ?_
        refine z_istS_n dX4_greatestShear_29 rfl (by decide) rfl ?_
        refine z_iload_n dX4_greatestShear_30 rfl rfl ?_
        refine z_if_ge (tgt := 39) dX4_greatestShear_31 (by decide) (fun hs => ?_) (fun hs => ?_)
        · refine z_iload_n dX4_greatestShear_39 rfl rfl ?_
          exact fin _ (absI_ge hs).symm
        · refine z_iload_n dX4_greatestShear_34 rfl rfl ?_
          refine z_ineg dX4_greatestShear_35 ?_
          refine z_goto (tgt := 40) dX4_greatestShear_36 (by decide) ?_
          exact fin _ (absI_lt hs).symm
  refine z_ls (ls' := [zR (20, 0, 0), zN, zN, zN]) rfl ?_
  refine z_iconst (v := 0) dX4_greatestShear_0 (by decide) ?_
  refine z_istS_n dX4_greatestShear_1 rfl (by decide) rfl ?_
  refine z_iconst (v := 0) dX4_greatestShear_2 (by decide) ?_
  refine z_istS_n dX4_greatestShear_3 rfl (by decide) rfl ?_
  exact loop n 0 zN (by omega) (by omega)
theorem m_keptOf (μ : zM) (m : Nat) (hm : m < 6) : zCi yX4_keptOf prog_6_method_43_code 3 (some .int) 1 [zR (20, 0, 0), zI (nI m)] μ (if μ (21, 0, 0) (36 + 104 * m) < 50 then μ (21, 0, 0) (36 + 104 * m) else 50) := by
  refine zCt.of "DyeTankModel" rfl (by decide +kernel) rfl (Nat.le_of_ble_eq_true rfl) (fun K hR => ?_)
  have v20 := zv_20
  have v21 := zv_21
  have v22 := zv_22
  have v23 := zv_23
  have v24 := zv_24
  have v25 := zv_25
  have v26 := zv_26
  have v27 := zv_27
  have v28 := zv_28
  have e : nI 34 + nI 104 * nI m + nI 2 = nI (36 + 104 * m) := by
    rw [pk_mul, nI_add, nI_add]
    congr 1
    omega
  refine z_ls (ls' := [zR (20, 0, 0), zI (nI m), zN]) rfl ?_
  refine z_aload_n dX4_keptOf_0 rfl rfl ?_
  refine zg_X4_at dX4_keptOf_1 tw_552 ?_
  refine z_bipush (v := 34) dX4_keptOf_4 (by decide) ?_
  refine z_bipush (v := 104) dX4_keptOf_6 (by decide) ?_
  refine z_iload_n dX4_keptOf_8 rfl rfl ?_
  refine z_imul dX4_keptOf_9 ?_
  refine z_iadd dX4_keptOf_10 ?_
  refine z_iconst (v := 2) dX4_keptOf_11 (by decide) ?_
  refine z_iadd dX4_keptOf_12 ?_
  refine z_iald dX4_keptOf_13 (fun _ _ => rfl) e (show 36 + 104 * m < 2386 by omega) ?_
  refine z_istS_n dX4_keptOf_14 rfl (by decide) rfl ?_
  refine z_iload_n dX4_keptOf_15 rfl rfl ?_
  refine z_bipush (v := 50) dX4_keptOf_16 (by decide) ?_
  refine z_icmp_ge (tgt := 25) dX4_keptOf_18 (by decide) (fun h1 => ?_) (fun h1 => ?_)
  · refine z_bipush (v := 50) dX4_keptOf_25 (by decide) ?_
    refine z_iret hR dX4_keptOf_27 (⟨rfl, by rw [if_neg (by rw [Int32.not_lt]; exact h1)]⟩)
  · refine z_iload_n dX4_keptOf_21 rfl rfl ?_
    refine z_goto (tgt := 27) dX4_keptOf_22 (by decide) ?_
    refine z_iret hR dX4_keptOf_27 (⟨rfl, by rw [if_pos (Int32.not_le.mp h1)]⟩)
theorem m_isPlace (μ : zM) (c L r x : Int32) : zCi yX4_isPlace prog_6_method_19_code 5 (some .boolean) 3 [zR (20, 0, 0), zI c, zI L, zI r, zI x] μ (zb ((0 ≤ c ∧ c ≤ 2) ∧ (0 ≤ L ∧ L ≤ 1) ∧ (0 ≤ r ∧ r ≤ μ (21, 0, 0) 0 - 1) ∧ (0 ≤ x ∧ x ≤ 23))) := by
  refine zCt.of "DyeTankModel" rfl (by decide +kernel) rfl (Nat.le_of_ble_eq_true rfl) (fun K hR => ?_)
  have v20 := zv_20
  have v21 := zv_21
  have v22 := zv_22
  have v23 := zv_23
  have v24 := zv_24
  have v25 := zv_25
  have v26 := zv_26
  have v27 := zv_27
  have v28 := zv_28
  refine z_ls (ls' := [zR (20, 0, 0), zI c, zI L, zI r, zI x]) rfl ?_
  refine z_iload_n dX4_isPlace_0 rfl rfl ?_
  refine z_iconst (v := 0) dX4_isPlace_1 (by decide) ?_
  refine z_iconst (v := 2) dX4_isPlace_2 (by decide) ?_
  refine z_cSi (c_in μ _ _ _) q_X4_in tw_593 dX4_isPlace_3 rfl rfl (by omega) (Nat.le_of_ble_eq_true rfl) ?_
  refine z_beq (tgt := 41) dX4_isPlace_6 (by decide) (fun h1 => ?_) (fun h1 => ?_)
  · refine z_iconst (v := 0) dX4_isPlace_41 (by decide) ?_
    refine z_bret hR dX4_isPlace_42 (Or.inl rfl) ⟨rfl, by rw [zb_f (fun q => h1 q.1)]⟩
  · refine z_iload_n dX4_isPlace_9 rfl rfl ?_
    refine z_iconst (v := 0) dX4_isPlace_10 (by decide) ?_
    refine z_iconst (v := 1) dX4_isPlace_11 (by decide) ?_
    refine z_cSi (c_in μ _ _ _) q_X4_in tw_593 dX4_isPlace_12 rfl rfl (by omega) (Nat.le_of_ble_eq_true rfl) ?_
    refine z_beq (tgt := 41) dX4_isPlace_15 (by decide) (fun h2 => ?_) (fun h2 => ?_)
    · refine z_iconst (v := 0) dX4_isPlace_41 (by decide) ?_
      refine z_bret hR dX4_isPlace_42 (Or.inl rfl) ⟨rfl, by rw [zb_f (fun q => h2 q.2.1)]⟩
    · refine z_aload_n dX4_isPlace_18 rfl rfl ?_
      refine z_iload_n dX4_isPlace_19 rfl rfl ?_
      refine z_cVi (m_isRing μ _) q_X4_isRing tw_608 dX4_isPlace_20 rfl rfl rfl (by omega) (Nat.le_of_ble_eq_true rfl) ?_
      refine z_beq (tgt := 41) dX4_isPlace_23 (by decide) (fun h3 => ?_) (fun h3 => ?_)
      · refine z_iconst (v := 0) dX4_isPlace_41 (by decide) ?_
        refine z_bret hR dX4_isPlace_42 (Or.inl rfl) ⟨rfl, by rw [zb_f (fun q => h3 q.2.2.1)]⟩
      · refine z_iload dX4_isPlace_26 rfl ?_
        refine z_iconst (v := 0) dX4_isPlace_28 (by decide) ?_
        refine z_bipush (v := 23) dX4_isPlace_29 (by decide) ?_
        refine z_cSi (c_in μ _ _ _) q_X4_in tw_593 dX4_isPlace_31 rfl rfl (by omega) (Nat.le_of_ble_eq_true rfl) ?_
        refine z_beq (tgt := 41) dX4_isPlace_34 (by decide) (fun h4 => ?_) (fun h4 => ?_)
        · refine z_iconst (v := 0) dX4_isPlace_41 (by decide) ?_
          refine z_bret hR dX4_isPlace_42 (Or.inl rfl) ⟨rfl, by rw [zb_f (fun q => h4 q.2.2.2)]⟩
        · refine z_iconst (v := 1) dX4_isPlace_37 (by decide) ?_
          refine z_goto (tgt := 42) dX4_isPlace_38 (by decide) ?_
          refine z_bret hR dX4_isPlace_42 (Or.inr rfl) ⟨rfl, by rw [zb_t ⟨h1, h2, h3, h4⟩]⟩
theorem m_unevenness (μ : zM) (n : Nat) (hn : μ (21, 0, 0) 0 = nI n) (hn2 : 2 ≤ n) (hn12 : n ≤ 12) (c : Nat) (hc : c < 3) : zCl yX4_unevenness prog_6_method_36_code 12 (some .long) 4 [zR (20, 0, 0), zI (nI c)] μ (unev (aD (μ (21, 0, 0)) c) n (allA (aD (μ (21, 0, 0)) c) n).toInt64) := by
  refine zCt.of "DyeTankModel" rfl (by decide +kernel) rfl (Nat.le_of_ble_eq_true rfl) (fun K hR => ?_)
  have v20 := zv_20
  have v21 := zv_21
  have v22 := zv_22
  have v23 := zv_23
  have v24 := zv_24
  have v25 := zv_25
  have v26 := zv_26
  have v27 := zv_27
  have v28 := zv_28
  generalize hall : (allA (aD (μ (21, 0, 0)) c) n).toInt64 = al
  have inner : ∀ (L : Nat) (lv : Int32), lv = nI L → L < 2 → ∀ (cs s0 : Int64), cs = 2 * (nI n).toInt64 * 24 → ∀ (f i : Nat) (s : Int64) (x10 x11 : zV), i ≤ 24 * n → 24 * n < i + f → s = s0 + sml (fun k => absL ((aD (μ (21, 0, 0)) c (rwi L 0 + k)).toInt64 * (2 * (nI n).toInt64 * 24) - al)) i → (∀ s' x9 x10 x11, s' = s0 + unevS (aD (μ (21, 0, 0)) c) n al L → Z K 4 "DyeTankModel" prog_6_method_36_code 12 103 [zR (20, 0, 0), zI (nI c), zL al, zN, zL cs, zN, zL s', zN, zI lv, x9, x10, x11] [] μ) → Z K 4 "DyeTankModel" prog_6_method_36_code 12 35 [zR (20, 0, 0), zI (nI c), zL al, zN, zL cs, zN, zL s, zN, zI lv, zI (nI i), x10, x11] [] μ := by
    intro L lv hlv hL cs s0 hcs
    have hrw : rwi L 0 + 288 ≤ 576 := by unfold rwi; omega
    intro f
    induction f with
    | zero => intro i s x10 x11 h1 h2 h3 h4; exact absurd ‹_ < _ + 0› (by omega)
    | succ f ih =>
      intro i s x10 x11 h1 h2 hs hend
      refine z_iload dX4_unevenness_35 rfl ?_
      refine z_bipush (v := 24) dX4_unevenness_37 (by decide) ?_
      refine z_aload_n dX4_unevenness_39 rfl rfl ?_
      refine zg_X4_at dX4_unevenness_40 tw_552 ?_
      refine z_iconst (v := 0) dX4_unevenness_43 (by decide) ?_
      refine z_iald dX4_unevenness_44 (fun _ _ => rfl) rfl (i := 0) (by decide) ?_
      refine z_top (hn) ?_
      refine z_imul dX4_unevenness_45 ?_
      refine z_top ((show nI 24 * nI n = nI (24 * n) from pk_mul _ _)) ?_
      refine z_icmp_ge (tgt := 103) dX4_unevenness_46 (by decide) (fun hb => ?_) (fun hb => ?_)
      · have hb := nle hb
        have e : i = 24 * n := by omega
        subst e
        exact hend s _ _ _ hs
      · have hb := nnle hb
        have hq : μ (21, 0, 0) (658 + (576 * c + (rwi L 0 + 0)) + i) = aD (μ (21, 0, 0)) c (rwi L 0 + i) := by unfold aD; congr 1; omega
        have hidx : 658 + (576 * c + (rwi L 0 + 0)) + i < 2386 := by omega
        have fin : ∀ v, v = absL ((aD (μ (21, 0, 0)) c (rwi L 0 + i)).toInt64 * cs - al) → Z K 4 "DyeTankModel" prog_6_method_36_code 12 94 [zR (20, 0, 0), zI (nI c), zL al, zN, zL cs, zN, zL s, zN, zI lv, zI (nI i), zL ((aD (μ (21, 0, 0)) c (rwi L 0 + i)).toInt64 * cs - al), zN] [zL v, zL s] μ := by
          intro v hv
          refine z_ladd dX4_unevenness_94 ?_
          refine z_lstS dX4_unevenness_95 (by decide) rfl ?_
          refine z_incS dX4_unevenness_97 rfl (inc1 _) (by decide) rfl ?_
          refine z_goto (tgt := 35) dX4_unevenness_100 (by decide) ?_
          refine ih (i + 1) _ _ _ (by omega) (by omega) ?_ hend
          rw [hv, hs, sml, ← Int64.add_assoc, hcs]
        subst hlv
        refine z_aload_n dX4_unevenness_49 rfl rfl ?_
        refine zg_X4_at dX4_unevenness_50 tw_552 ?_
        refine z_sipush (v := 658) dX4_unevenness_53 (by decide) ?_
        refine z_iload_n dX4_unevenness_56 rfl rfl ?_
        refine z_iload dX4_unevenness_57 rfl ?_
        refine z_iconst (v := 0) dX4_unevenness_59 (by decide) ?_
        refine z_iconst (v := 0) dX4_unevenness_60 (by decide) ?_
        refine z_cSi (m_dyeAt μ c L 0 0) q_X4_dyeAt tw_648 dX4_unevenness_61 rfl rfl (by omega) (Nat.le_of_ble_eq_true rfl) ?_
        refine z_iadd dX4_unevenness_64 ?_
        refine z_top ((nI_add 658 _)) ?_
        refine z_iload dX4_unevenness_65 rfl ?_
        refine z_iadd dX4_unevenness_67 ?_
        refine z_iald dX4_unevenness_68 (fun _ _ => rfl) (nI_add _ i) hidx ?_
        refine z_top (hq) ?_
        refine z_i2l dX4_unevenness_69 ?_
        refine z_lload dX4_unevenness_70 rfl ?_
        refine z_lmul dX4_unevenness_72 ?_
        refine z_lload_n dX4_unevenness_73 rfl rfl ?_
        refine z_lsub dX4_unevenness_74 ?_
        refine z_lstS dX4_unevenness_75 (by decide) rfl ?_
        refine z_lload dX4_unevenness_77 rfl ?_
        refine z_lload dX4_unevenness_79 rfl ?_
        refine z_lconst (v := 0) dX4_unevenness_81 (by decide) ?_
        refine z_lcmp dX4_unevenness_82 ?_
        refine z_if_ge (tgt := 92) dX4_unevenness_83 (by decide) (fun hz => ?_) (fun hz => ?_)
        · refine z_lload dX4_unevenness_92 rfl ?_
          refine fin _ ?_
          rw [← absL_eq]
          rw [lcmp_ge] at hz
          rw [if_neg (Int64.not_lt.mpr hz)]
        · refine z_lload dX4_unevenness_86 rfl ?_
          refine z_lneg dX4_unevenness_88 ?_
          refine z_goto (tgt := 94) dX4_unevenness_89 (by decide) ?_
          refine fin _ ?_
          rw [← absL_eq]
          rw [lcmp_ge, Int64.not_le] at hz
          rw [if_pos hz]
  refine z_ls (ls' := [zR (20, 0, 0), zI (nI c), zN, zN, zN, zN, zN, zN, zN, zN, zN, zN]) rfl ?_
  refine z_aload_n dX4_unevenness_0 rfl rfl ?_
  refine z_iload_n dX4_unevenness_1 rfl rfl ?_
  refine z_cVi (m_allOf μ n hn hn2 hn12 c hc) q_X4_allOf tw_640 dX4_unevenness_2 rfl rfl rfl (by omega) (Nat.le_of_ble_eq_true rfl) ?_
  refine z_i2l dX4_unevenness_5 ?_
  refine z_topl (hall) ?_
  refine z_lstS_n dX4_unevenness_6 rfl (by decide) rfl ?_
  refine z_ldc2 (v := 48) dX4_unevenness_7 tw_727 ?_
  refine z_aload_n dX4_unevenness_10 rfl rfl ?_
  refine zg_X4_at dX4_unevenness_11 tw_552 ?_
  refine z_iconst (v := 0) dX4_unevenness_14 (by decide) ?_
  refine z_iald dX4_unevenness_15 (fun _ _ => rfl) rfl (i := 0) (by decide) ?_
  refine z_top (hn) ?_
  refine z_i2l dX4_unevenness_16 ?_
  refine z_lmul dX4_unevenness_17 ?_
  refine z_topl ((cells48 _)) ?_
  generalize hcs : 2 * (nI n).toInt64 * 24 = cs
  refine z_lstS dX4_unevenness_18 (by decide) rfl ?_
  refine z_lconst (v := 0) dX4_unevenness_20 (by decide) ?_
  refine z_lstS dX4_unevenness_21 (by decide) rfl ?_
  refine z_iconst (v := 0) dX4_unevenness_23 (by decide) ?_
  refine z_istS dX4_unevenness_24 (by decide) rfl ?_
  refine z_iload dX4_unevenness_26 rfl ?_
  refine z_iconst (v := 2) dX4_unevenness_28 (by decide) ?_
  refine z_icmp_ge (tgt := 109) dX4_unevenness_29 (by decide) (fun h9 => absurd h9 ((show ¬ (2 : Int32) ≤ 0 by decide))) (fun _ => ?_)
  refine z_iconst (v := 0) dX4_unevenness_32 (by decide) ?_
  refine z_istS dX4_unevenness_33 (by decide) rfl ?_
  refine inner 0 0 (by decide) (by decide) cs 0 hcs.symm (24 * n + 1) 0 0 zN zN (by omega) (by omega) (by rw [sml, Int64.add_zero]) (fun s1 x9 x10 x11 hs1 => ?_)
  refine z_incS dX4_unevenness_103 rfl (show (0 : Int32) + Int32.ofInt 1 = 1 by decide) (by decide) rfl ?_
  refine z_goto (tgt := 26) dX4_unevenness_106 (by decide) ?_
  refine z_iload dX4_unevenness_26 rfl ?_
  refine z_iconst (v := 2) dX4_unevenness_28 (by decide) ?_
  refine z_icmp_ge (tgt := 109) dX4_unevenness_29 (by decide) (fun h9 => absurd h9 ((show ¬ (2 : Int32) ≤ 1 by decide))) (fun _ => ?_)
  refine z_iconst (v := 0) dX4_unevenness_32 (by decide) ?_
  refine z_istS dX4_unevenness_33 (by decide) rfl ?_
  refine inner 1 1 (by decide) (by decide) cs s1 hcs.symm (24 * n + 1) 0 s1 x10 x11 (by omega) (by omega) (by rw [sml, Int64.add_zero]) (fun s2 x9 x10 x11 hs2 => ?_)
  refine z_incS dX4_unevenness_103 rfl (show (1 : Int32) + Int32.ofInt 1 = 2 by decide) (by decide) rfl ?_
  refine z_goto (tgt := 26) dX4_unevenness_106 (by decide) ?_
  refine z_iload dX4_unevenness_26 rfl ?_
  refine z_iconst (v := 2) dX4_unevenness_28 (by decide) ?_
  refine z_icmp_ge (tgt := 109) dX4_unevenness_29 (by decide) (fun _ => ?_) (fun h9 => absurd ((show (2 : Int32) ≤ 2 by decide)) h9)
  refine z_lload dX4_unevenness_109 rfl ?_
  refine z_lload dX4_unevenness_111 rfl ?_
  refine z_ldiv dX4_unevenness_113 (by rw [← hcs]; exact cells_ne (by omega) hn12) ?_
  refine z_lret hR dX4_unevenness_114 (⟨rfl, by rw [hs2, hs1, Int64.zero_add, unev, hcs, hall]⟩)
