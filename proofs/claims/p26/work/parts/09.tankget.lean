theorem c_hasRing (μ : zM) (t : Nat) (ht : t < 4) (x : Int32) : zCi yX2_hasRing prog_4_method_4_code 2 (some .boolean) 1 [zR (5, t, 0), zI x] μ (zb (0 ≤ x ∧ x < μ (5, t, 0) 0)) := by
  refine zCt.of "DyeTank$Tank" rfl (by decide +kernel) rfl (Nat.le_of_ble_eq_true rfl) (fun K hR => ?_)
  have v5 := zv_5 t ht
  have v6 := zv_6 t ht
  have v7 := zv_7 t ht
  have v8 := zv_8 t ht
  have v9 := zv_9 t ht
  have v10 := zv_10 t ht
  have v12 := zv_12 t ht
  have v16 := zv_16 t ht
  have v17 := zv_17 t ht
  have v18 := zv_18 t ht
  refine z_ls (ls' := [zR (5, t, 0), zI x]) rfl ?_
  refine z_iload_n dX2_hasRing_0 rfl rfl ?_
  refine z_if_lt (tgt := 16) dX2_hasRing_1 (by decide) (fun h1 => ?_) (fun h1 => ?_)
  · refine z_iconst (v := 0) dX2_hasRing_16 (by decide) ?_
    refine z_bret hR dX2_hasRing_17 (Or.inl rfl) ⟨rfl, by rw [zb_f (fun q => absurd q.1 (Int32.not_le.mpr h1))]⟩
  · refine z_iload_n dX2_hasRing_4 rfl rfl ?_
    refine z_aload_n dX2_hasRing_5 rfl rfl ?_
    refine zg_X2_rings dX2_hasRing_6 tw_70 ?_
    refine z_icmp_ge (tgt := 16) dX2_hasRing_9 (by decide) (fun h2 => ?_) (fun h2 => ?_)
    · refine z_iconst (v := 0) dX2_hasRing_16 (by decide) ?_
      refine z_bret hR dX2_hasRing_17 (Or.inl rfl) ⟨rfl, by rw [zb_f (fun q => absurd q.2 (Int32.not_lt.mpr h2))]⟩
    · refine z_iconst (v := 1) dX2_hasRing_12 (by decide) ?_
      refine z_goto (tgt := 17) dX2_hasRing_13 (by decide) ?_
      refine z_bret hR dX2_hasRing_17 (Or.inr rfl) ⟨rfl, by rw [zb_t ⟨Int32.not_lt.mp h1, Int32.not_le.mp h2⟩]⟩
theorem c_hasMarker (μ : zM) (t : Nat) (ht : t < 4) (x : Int32) : zCi yX2_hasMarker prog_4_method_5_code 2 (some .boolean) 1 [zR (5, t, 0), zI x] μ (zb (0 ≤ x ∧ x < μ (5, t, 0) 2)) := by
  refine zCt.of "DyeTank$Tank" rfl (by decide +kernel) rfl (Nat.le_of_ble_eq_true rfl) (fun K hR => ?_)
  have v5 := zv_5 t ht
  have v6 := zv_6 t ht
  have v7 := zv_7 t ht
  have v8 := zv_8 t ht
  have v9 := zv_9 t ht
  have v10 := zv_10 t ht
  have v12 := zv_12 t ht
  have v16 := zv_16 t ht
  have v17 := zv_17 t ht
  have v18 := zv_18 t ht
  refine z_ls (ls' := [zR (5, t, 0), zI x]) rfl ?_
  refine z_iload_n dX2_hasMarker_0 rfl rfl ?_
  refine z_if_lt (tgt := 16) dX2_hasMarker_1 (by decide) (fun h1 => ?_) (fun h1 => ?_)
  · refine z_iconst (v := 0) dX2_hasMarker_16 (by decide) ?_
    refine z_bret hR dX2_hasMarker_17 (Or.inl rfl) ⟨rfl, by rw [zb_f (fun q => absurd q.1 (Int32.not_le.mpr h1))]⟩
  · refine z_iload_n dX2_hasMarker_4 rfl rfl ?_
    refine z_aload_n dX2_hasMarker_5 rfl rfl ?_
    refine zg_X2_markerCount dX2_hasMarker_6 tw_74 ?_
    refine z_icmp_ge (tgt := 16) dX2_hasMarker_9 (by decide) (fun h2 => ?_) (fun h2 => ?_)
    · refine z_iconst (v := 0) dX2_hasMarker_16 (by decide) ?_
      refine z_bret hR dX2_hasMarker_17 (Or.inl rfl) ⟨rfl, by rw [zb_f (fun q => absurd q.2 (Int32.not_lt.mpr h2))]⟩
    · refine z_iconst (v := 1) dX2_hasMarker_12 (by decide) ?_
      refine z_goto (tgt := 17) dX2_hasMarker_13 (by decide) ?_
      refine z_bret hR dX2_hasMarker_17 (Or.inr rfl) ⟨rfl, by rw [zb_t ⟨Int32.not_lt.mp h1, Int32.not_le.mp h2⟩]⟩
theorem c_lastPlace (μ : zM) (t : Nat) (ht : t < 4) : zCi yX2_lastPlace prog_4_method_6_code 1 (some .int) 1 [zR (5, t, 0)] μ (1000 * μ (5, t, 0) 0 - 1) := by
  refine zCt.of "DyeTank$Tank" rfl (by decide +kernel) rfl (Nat.le_of_ble_eq_true rfl) (fun K hR => ?_)
  have v5 := zv_5 t ht
  have v6 := zv_6 t ht
  have v7 := zv_7 t ht
  have v8 := zv_8 t ht
  have v9 := zv_9 t ht
  have v10 := zv_10 t ht
  have v12 := zv_12 t ht
  have v16 := zv_16 t ht
  have v17 := zv_17 t ht
  have v18 := zv_18 t ht
  refine z_ls (ls' := [zR (5, t, 0)]) rfl ?_
  refine z_sipush (v := 1000) dX2_lastPlace_0 (by decide) ?_
  refine z_aload_n dX2_lastPlace_3 rfl rfl ?_
  refine zg_X2_rings dX2_lastPlace_4 tw_70 ?_
  refine z_imul dX2_lastPlace_7 ?_
  refine z_iconst (v := 1) dX2_lastPlace_8 (by decide) ?_
  refine z_isub dX2_lastPlace_9 ?_
  refine z_iret hR dX2_lastPlace_10 (⟨rfl, rfl⟩)
theorem c_weightOf (μ : zM) (r : Nat) : zCi yX2_weightOf prog_4_method_7_code 1 (some .int) 1 [zI (nI r)] μ (nI (2 * r + 1)) := by
  refine zCt.of "DyeTank$Tank" rfl (by decide +kernel) rfl (Nat.le_of_ble_eq_true rfl) (fun K hR => ?_)
  refine z_ls (ls' := [zI (nI r)]) rfl ?_
  refine z_iconst (v := 2) dX2_weightOf_0 (by decide) ?_
  refine z_iload_n dX2_weightOf_1 rfl rfl ?_
  refine z_imul dX2_weightOf_2 ?_
  refine z_iconst (v := 1) dX2_weightOf_3 (by decide) ?_
  refine z_iadd dX2_weightOf_4 ?_
  refine z_iret hR dX2_weightOf_5 (⟨rfl, by rw [wt_eq]⟩)
theorem c_velocityOf (μ : zM) (t : Nat) (ht : t < 4) (r : Nat) (hr : r < 12) : zCi yX2_velocityOf prog_4_method_8_code 2 (some .int) 2 [zR (5, t, 0), zI (nI r)] μ (vel (μ (7, t, 0)) r) := by
  refine zCt.of "DyeTank$Tank" rfl (by decide +kernel) rfl (Nat.le_of_ble_eq_true rfl) (fun K hR => ?_)
  have v5 := zv_5 t ht
  have v6 := zv_6 t ht
  have v7 := zv_7 t ht
  have v8 := zv_8 t ht
  have v9 := zv_9 t ht
  have v10 := zv_10 t ht
  have v12 := zv_12 t ht
  have v16 := zv_16 t ht
  have v17 := zv_17 t ht
  have v18 := zv_18 t ht
  refine z_ls (ls' := [zR (5, t, 0), zI (nI r)]) rfl ?_
  refine z_aload_n dX2_velocityOf_0 rfl rfl ?_
  refine zg_X2_momenta dX2_velocityOf_1 tw_78 ?_
  refine z_iload_n dX2_velocityOf_4 rfl rfl ?_
  refine z_iald dX2_velocityOf_5 (fun _ _ => rfl) rfl hr ?_
  refine z_iload_n dX2_velocityOf_6 rfl rfl ?_
  refine z_cSi (c_weightOf μ r) q_X2_weightOf tw_212 dX2_velocityOf_7 rfl rfl (by omega) (Nat.le_of_ble_eq_true rfl) ?_
  refine z_cSi (c_floorDiv μ _ _ (wt_ne (by omega))) q_J9_floorDiv_7cf53 tw_215 dX2_velocityOf_10 rfl rfl (by omega) (Nat.le_of_ble_eq_true rfl) ?_
  refine z_iret hR dX2_velocityOf_13 (⟨rfl, rfl⟩)
theorem c_pushOf (μ : zM) (t : Nat) (ht : t < 4) (r : Nat) (hr : r < 12) : zCi yX2_pushOf prog_4_method_11_code 3 (some .int) 3 [zR (5, t, 0), zI (nI r)] μ (psh (μ (6, t, 0)) (μ (7, t, 0)) r) := by
  refine zCt.of "DyeTank$Tank" rfl (by decide +kernel) rfl (Nat.le_of_ble_eq_true rfl) (fun K hR => ?_)
  have v5 := zv_5 t ht
  have v6 := zv_6 t ht
  have v7 := zv_7 t ht
  have v8 := zv_8 t ht
  have v9 := zv_9 t ht
  have v10 := zv_10 t ht
  have v12 := zv_12 t ht
  have v16 := zv_16 t ht
  have v17 := zv_17 t ht
  have v18 := zv_18 t ht
  refine z_ls (ls' := [zR (5, t, 0), zI (nI r), zN]) rfl ?_
  refine z_aload_n dX2_pushOf_0 rfl rfl ?_
  refine zg_X2_settings dX2_pushOf_1 tw_76 ?_
  refine z_iconst (v := 5) dX2_pushOf_4 (by decide) ?_
  refine z_iald dX2_pushOf_5 (fun _ _ => rfl) rfl (i := 5) (by decide) ?_
  refine z_aload_n dX2_pushOf_6 rfl rfl ?_
  refine z_iload_n dX2_pushOf_7 rfl rfl ?_
  refine z_cVi (c_velocityOf μ t ht r hr) q_X2_velocityOf tw_208 dX2_pushOf_8 rfl rfl rfl (by omega) (Nat.le_of_ble_eq_true rfl) ?_
  refine z_aload_n dX2_pushOf_11 rfl rfl ?_
  refine zg_X2_settings dX2_pushOf_12 tw_76 ?_
  refine z_iconst (v := 4) dX2_pushOf_15 (by decide) ?_
  refine z_iald dX2_pushOf_16 (fun _ _ => rfl) rfl (i := 4) (by decide) ?_
  refine z_isub dX2_pushOf_17 ?_
  refine z_imul dX2_pushOf_18 ?_
  refine z_bipush (v := 100) dX2_pushOf_19 (by decide) ?_
  refine z_idiv dX2_pushOf_21 (by decide) ?_
  refine z_istS_n dX2_pushOf_22 rfl (by decide) rfl ?_
  refine z_sipush (v := -500) dX2_pushOf_23 (by decide) ?_
  refine z_sipush (v := 500) dX2_pushOf_26 (by decide) ?_
  refine z_iload_n dX2_pushOf_29 rfl rfl ?_
  refine z_mmin dX2_pushOf_30 tw_242 ⟨by omega, Nat.le_of_ble_eq_true rfl⟩ ?_
  refine z_mmax dX2_pushOf_33 tw_221 ⟨by omega, Nat.le_of_ble_eq_true rfl⟩ ?_
  refine z_iret hR dX2_pushOf_36 (⟨rfl, by rw [clP_eq]; rfl⟩)
theorem c_allMomenta (μ : zM) (t n : Nat) (ht : t < 4) (hn : μ (5, t, 0) 0 = nI n) (hn12 : n ≤ 12) : zCi yX2_allMomenta prog_4_method_12_code 3 (some .int) 1 [zR (5, t, 0)] μ (sm (μ (7, t, 0)) n) := by
  refine zCt.of "DyeTank$Tank" rfl (by decide +kernel) rfl (Nat.le_of_ble_eq_true rfl) (fun K hR => ?_)
  have v5 := zv_5 t ht
  have v6 := zv_6 t ht
  have v7 := zv_7 t ht
  have v8 := zv_8 t ht
  have v9 := zv_9 t ht
  have v10 := zv_10 t ht
  have v12 := zv_12 t ht
  have v16 := zv_16 t ht
  have v17 := zv_17 t ht
  have v18 := zv_18 t ht
  have loop : ∀ (f i : Nat), i ≤ n → n < i + f → Z K 1 "DyeTank$Tank" prog_4_method_12_code 3 4 [zR (5, t, 0), zI (sm (μ (7, t, 0)) i), zI (nI i)] [] μ := by
    intro f
    induction f with
    | zero => intro i h1 h2; exact absurd ‹_ < _ + 0› (by omega)
    | succ f ih =>
      intro i h1 h2
      refine z_iload_n dX2_allMomenta_4 rfl rfl ?_
      refine z_aload_n dX2_allMomenta_5 rfl rfl ?_
      refine zg_X2_rings dX2_allMomenta_6 tw_70 ?_
      refine z_top (hn) ?_
      refine z_icmp_ge (tgt := 27) dX2_allMomenta_9 (by decide) (fun hb => ?_) (fun hb => ?_)
      · have hb := nle hb
        have e : i = n := by omega
        subst e
        refine z_iload_n dX2_allMomenta_27 rfl rfl ?_
        refine z_iret hR dX2_allMomenta_28 (⟨rfl, rfl⟩)
      · have hb := nnle hb
        refine z_iload_n dX2_allMomenta_12 rfl rfl ?_
        refine z_aload_n dX2_allMomenta_13 rfl rfl ?_
        refine zg_X2_momenta dX2_allMomenta_14 tw_78 ?_
        refine z_iload_n dX2_allMomenta_17 rfl rfl ?_
        refine z_iald dX2_allMomenta_18 (fun _ _ => rfl) rfl (by omega) ?_
        refine z_iadd dX2_allMomenta_19 ?_
        refine z_istS_n dX2_allMomenta_20 rfl (by decide) rfl ?_
        refine z_incS dX2_allMomenta_21 rfl (inc1 _) (by decide) rfl ?_
        refine z_goto (tgt := 4) dX2_allMomenta_24 (by decide) ?_
        exact ih (i + 1) (by omega) (by omega)
  refine z_ls (ls' := [zR (5, t, 0), zN, zN]) rfl ?_
  refine z_iconst (v := 0) dX2_allMomenta_0 (by decide) ?_
  refine z_istS_n dX2_allMomenta_1 rfl (by decide) rfl ?_
  refine z_iconst (v := 0) dX2_allMomenta_2 (by decide) ?_
  refine z_istS_n dX2_allMomenta_3 rfl (by decide) rfl ?_
  exact loop (n + 1) 0 (by omega) (by omega)
theorem c_rowOf (μ : zM) (L r : Nat) : zCi yX2_rowOf prog_4_method_15_code 2 (some .int) 1 [zI (nI L), zI (nI r)] μ (nI (rwi L r)) := by
  refine zCt.of "DyeTank$Tank" rfl (by decide +kernel) rfl (Nat.le_of_ble_eq_true rfl) (fun K hR => ?_)
  refine z_ls (ls' := [zI (nI L), zI (nI r)]) rfl ?_
  refine z_iload_n dX2_rowOf_0 rfl rfl ?_
  refine z_bipush (v := 12) dX2_rowOf_1 (by decide) ?_
  refine z_imul dX2_rowOf_3 ?_
  refine z_iload_n dX2_rowOf_4 rfl rfl ?_
  refine z_iadd dX2_rowOf_5 ?_
  refine z_bipush (v := 24) dX2_rowOf_6 (by decide) ?_
  refine z_imul dX2_rowOf_8 ?_
  refine z_iret hR dX2_rowOf_9 (⟨rfl, by show zI ((nI L * nI 12 + nI r) * nI 24) = _; rw [pk_mul, nI_add, pk_mul]; rfl⟩)
theorem c_cellIn (μ : zM) (t : Nat) (ht : t < 4) (L r : Nat) (hr : r < 12) (x : Int32) : zCi yX2_cellIn prog_4_method_16_code 4 (some .int) 2 [zR (5, t, 0), zI (nI L), zI (nI r), zI x] μ (nI (rwi L r) + fmd (x - μ (8, t, 0) r / 150) 24) := by
  refine zCt.of "DyeTank$Tank" rfl (by decide +kernel) rfl (Nat.le_of_ble_eq_true rfl) (fun K hR => ?_)
  have v5 := zv_5 t ht
  have v6 := zv_6 t ht
  have v7 := zv_7 t ht
  have v8 := zv_8 t ht
  have v9 := zv_9 t ht
  have v10 := zv_10 t ht
  have v12 := zv_12 t ht
  have v16 := zv_16 t ht
  have v17 := zv_17 t ht
  have v18 := zv_18 t ht
  refine z_ls (ls' := [zR (5, t, 0), zI (nI L), zI (nI r), zI x]) rfl ?_
  refine z_iload_n dX2_cellIn_0 rfl rfl ?_
  refine z_iload_n dX2_cellIn_1 rfl rfl ?_
  refine z_cSi (c_rowOf μ L r) q_X2_rowOf tw_253 dX2_cellIn_2 rfl rfl (by omega) (Nat.le_of_ble_eq_true rfl) ?_
  refine z_iload_n dX2_cellIn_5 rfl rfl ?_
  refine z_aload_n dX2_cellIn_6 rfl rfl ?_
  refine zg_X2_angles dX2_cellIn_7 tw_80 ?_
  refine z_iload_n dX2_cellIn_10 rfl rfl ?_
  refine z_iald dX2_cellIn_11 (fun _ _ => rfl) rfl hr ?_
  refine z_sipush (v := 150) dX2_cellIn_12 (by decide) ?_
  refine z_idiv dX2_cellIn_15 (by decide) ?_
  refine z_isub dX2_cellIn_16 ?_
  refine z_bipush (v := 24) dX2_cellIn_17 (by decide) ?_
  refine z_cSi (c_floorMod μ _ _ (by decide)) q_J9_floorMod_7cf53 tw_286 dX2_cellIn_19 rfl rfl (by omega) (Nat.le_of_ble_eq_true rfl) ?_
  refine z_iadd dX2_cellIn_22 ?_
  refine z_iret hR dX2_cellIn_23 (⟨rfl, rfl⟩)
theorem c_amountInRow (μ : zM) (t : Nat) (ht : t < 4) (c L r : Nat) (hc : c < 3) (hL : L < 2) (hr : r < 12) : zCi yX2_amountInRow prog_4_method_19_code 8 (some .int) 2 [zR (5, t, 0), zI (nI c), zI (nI L), zI (nI r)] μ (rowS (μ (11, t, c)) L r) := by
  refine zCt.of "DyeTank$Tank" rfl (by decide +kernel) rfl (Nat.le_of_ble_eq_true rfl) (fun K hR => ?_)
  have v5 := zv_5 t ht
  have v6 := zv_6 t ht
  have v7 := zv_7 t ht
  have v8 := zv_8 t ht
  have v9 := zv_9 t ht
  have v10 := zv_10 t ht
  have v12 := zv_12 t ht
  have v16 := zv_16 t ht
  have v17 := zv_17 t ht
  have v18 := zv_18 t ht
  have v11 := zv_11 t ht c hc
  have hrw : rwi L r + 24 ≤ 576 := by unfold rwi; omega
  have loop : ∀ (f i : Nat), i ≤ 24 → 24 < i + f → Z K 2 "DyeTank$Tank" prog_4_method_19_code 8 22 [zR (5, t, 0), zI (nI c), zI (nI L), zI (nI r), zR (11, t, c), zI (nI (rwi L r)), zI (sm (fun j => μ (11, t, c) (rwi L r + j)) i), zI (nI (rwi L r + i))] [] μ := by
    intro f
    induction f with
    | zero => intro i h1 h2; exact absurd ‹_ < _ + 0› (by omega)
    | succ f ih =>
      intro i h1 h2
      refine z_iload dX2_amountInRow_22 rfl ?_
      refine z_iload dX2_amountInRow_24 rfl ?_
      refine z_bipush (v := 24) dX2_amountInRow_26 (by decide) ?_
      refine z_iadd dX2_amountInRow_28 ?_
      refine z_top ((show nI (rwi L r) + nI 24 = nI (rwi L r + 24) from nI_add _ _)) ?_
      refine z_icmp_ge (tgt := 48) dX2_amountInRow_29 (by decide) (fun hb => ?_) (fun hb => ?_)
      · have hb := nle hb
        have e : i = 24 := by omega
        subst e
        refine z_iload dX2_amountInRow_48 rfl ?_
        refine z_iret hR dX2_amountInRow_50 (⟨rfl, rfl⟩)
      · have hb := nnle hb
        refine z_iload dX2_amountInRow_32 rfl ?_
        refine z_aload dX2_amountInRow_34 rfl ?_
        refine z_iload dX2_amountInRow_36 rfl ?_
        refine z_iald dX2_amountInRow_38 (fun _ _ => rfl) rfl (by omega) ?_
        refine z_iadd dX2_amountInRow_39 ?_
        refine z_istS dX2_amountInRow_40 (by decide) rfl ?_
        refine z_incS dX2_amountInRow_42 rfl (inc1 _) (by decide) rfl ?_
        refine z_goto (tgt := 22) dX2_amountInRow_45 (by decide) ?_
        exact ih (i + 1) (by omega) (by omega)
  refine z_ls (ls' := [zR (5, t, 0), zI (nI c), zI (nI L), zI (nI r), zN, zN, zN, zN]) rfl ?_
  refine z_aload_n dX2_amountInRow_0 rfl rfl ?_
  refine zg_X2_dyes dX2_amountInRow_1 tw_84 ?_
  refine z_iload_n dX2_amountInRow_4 rfl rfl ?_
  refine z_ald10 dX2_amountInRow_5 rfl hc ?_
  refine z_astS dX2_amountInRow_6 (by decide) rfl ?_
  refine z_iload_n dX2_amountInRow_8 rfl rfl ?_
  refine z_iload_n dX2_amountInRow_9 rfl rfl ?_
  refine z_cSi (c_rowOf μ L r) q_X2_rowOf tw_253 dX2_amountInRow_10 rfl rfl (by omega) (Nat.le_of_ble_eq_true rfl) ?_
  refine z_istS dX2_amountInRow_13 (by decide) rfl ?_
  refine z_iconst (v := 0) dX2_amountInRow_15 (by decide) ?_
  refine z_istS dX2_amountInRow_16 (by decide) rfl ?_
  refine z_iload dX2_amountInRow_18 rfl ?_
  refine z_istS dX2_amountInRow_20 (by decide) rfl ?_
  exact loop 25 0 (by omega) (by omega)
theorem c_amountInRing (μ : zM) (t : Nat) (ht : t < 4) (c r : Nat) (hc : c < 3) (hr : r < 12) : zCi yX2_amountInRing prog_4_method_17_code 3 (some .int) 3 [zR (5, t, 0), zI (nI c), zI (nI r)] μ (ringS (μ (11, t, c)) r) := by
  refine zCt.of "DyeTank$Tank" rfl (by decide +kernel) rfl (Nat.le_of_ble_eq_true rfl) (fun K hR => ?_)
  have v5 := zv_5 t ht
  have v6 := zv_6 t ht
  have v7 := zv_7 t ht
  have v8 := zv_8 t ht
  have v9 := zv_9 t ht
  have v10 := zv_10 t ht
  have v12 := zv_12 t ht
  have v16 := zv_16 t ht
  have v17 := zv_17 t ht
  have v18 := zv_18 t ht
  refine z_ls (ls' := [zR (5, t, 0), zI (nI c), zI (nI r)]) rfl ?_
  refine z_aload_n dX2_amountInRing_0 rfl rfl ?_
  refine z_iload_n dX2_amountInRing_1 rfl rfl ?_
  refine z_iconst (v := 0) dX2_amountInRing_2 (by decide) ?_
  refine z_iload_n dX2_amountInRing_3 rfl rfl ?_
  refine z_cVi (c_amountInRow μ t ht c 0 r hc (by decide) hr) q_X2_amountInRow tw_249 dX2_amountInRing_4 rfl rfl rfl (by omega) (Nat.le_of_ble_eq_true rfl) ?_
  refine z_aload_n dX2_amountInRing_7 rfl rfl ?_
  refine z_iload_n dX2_amountInRing_8 rfl rfl ?_
  refine z_iconst (v := 1) dX2_amountInRing_9 (by decide) ?_
  refine z_iload_n dX2_amountInRing_10 rfl rfl ?_
  refine z_cVi (c_amountInRow μ t ht c 1 r hc (by decide) hr) q_X2_amountInRow tw_249 dX2_amountInRing_11 rfl rfl rfl (by omega) (Nat.le_of_ble_eq_true rfl) ?_
  refine z_iadd dX2_amountInRing_14 ?_
  refine z_iret hR dX2_amountInRing_15 (⟨rfl, rfl⟩)
theorem c_amountInTop (μ : zM) (t n : Nat) (ht : t < 4) (hn : μ (5, t, 0) 0 = nI n) (hn12 : n ≤ 12) (c : Nat) (hc : c < 3) : zCi yX2_amountInTop prog_4_method_18_code 4 (some .int) 3 [zR (5, t, 0), zI (nI c)] μ (sm (fun r => rowS (μ (11, t, c)) 0 r) n) := by
  refine zCt.of "DyeTank$Tank" rfl (by decide +kernel) rfl (Nat.le_of_ble_eq_true rfl) (fun K hR => ?_)
  have v5 := zv_5 t ht
  have v6 := zv_6 t ht
  have v7 := zv_7 t ht
  have v8 := zv_8 t ht
  have v9 := zv_9 t ht
  have v10 := zv_10 t ht
  have v12 := zv_12 t ht
  have v16 := zv_16 t ht
  have v17 := zv_17 t ht
  have v18 := zv_18 t ht
  have loop : ∀ (f i : Nat), i ≤ n → n < i + f → Z K 3 "DyeTank$Tank" prog_4_method_18_code 4 4 [zR (5, t, 0), zI (nI c), zI (sm (fun r => rowS (μ (11, t, c)) 0 r) i), zI (nI i)] [] μ := by
    intro f
    induction f with
    | zero => intro i h1 h2; exact absurd ‹_ < _ + 0› (by omega)
    | succ f ih =>
      intro i h1 h2
      refine z_iload_n dX2_amountInTop_4 rfl rfl ?_
      refine z_aload_n dX2_amountInTop_5 rfl rfl ?_
      refine zg_X2_rings dX2_amountInTop_6 tw_70 ?_
      refine z_top (hn) ?_
      refine z_icmp_ge (tgt := 28) dX2_amountInTop_9 (by decide) (fun hb => ?_) (fun hb => ?_)
      · have hb := nle hb
        have e : i = n := by omega
        subst e
        refine z_iload_n dX2_amountInTop_28 rfl rfl ?_
        refine z_iret hR dX2_amountInTop_29 (⟨rfl, rfl⟩)
      · have hb := nnle hb
        refine z_iload_n dX2_amountInTop_12 rfl rfl ?_
        refine z_aload_n dX2_amountInTop_13 rfl rfl ?_
        refine z_iload_n dX2_amountInTop_14 rfl rfl ?_
        refine z_iconst (v := 0) dX2_amountInTop_15 (by decide) ?_
        refine z_iload_n dX2_amountInTop_16 rfl rfl ?_
        refine z_cVi (c_amountInRow μ t ht c 0 i hc (by decide) (by omega)) q_X2_amountInRow tw_249 dX2_amountInTop_17 rfl rfl rfl (by omega) (Nat.le_of_ble_eq_true rfl) ?_
        refine z_iadd dX2_amountInTop_20 ?_
        refine z_istS_n dX2_amountInTop_21 rfl (by decide) rfl ?_
        refine z_incS dX2_amountInTop_22 rfl (inc1 _) (by decide) rfl ?_
        refine z_goto (tgt := 4) dX2_amountInTop_25 (by decide) ?_
        exact ih (i + 1) (by omega) (by omega)
  refine z_ls (ls' := [zR (5, t, 0), zI (nI c), zN, zN]) rfl ?_
  refine z_iconst (v := 0) dX2_amountInTop_0 (by decide) ?_
  refine z_istS_n dX2_amountInTop_1 rfl (by decide) rfl ?_
  refine z_iconst (v := 0) dX2_amountInTop_2 (by decide) ?_
  refine z_istS_n dX2_amountInTop_3 rfl (by decide) rfl ?_
  exact loop (n + 1) 0 (by omega) (by omega)
