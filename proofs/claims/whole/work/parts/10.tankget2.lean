theorem c_greatestShear (μ : zM) (t n : Nat) (ht : t < 4) (hn : μ (5, t, 0) 0 = nI n) (hn2 : 2 ≤ n) (hn12 : n ≤ 12) : zCi yX2_greatestShear prog_4_method_13_code 3 (some .int) 3 [zR (5, t, 0)] μ (mxf (fun r => absI (vel (μ (7, t, 0)) r - vel (μ (7, t, 0)) (r + 1))) (n - 1)) := by
  refine zCt.of "DyeTank$Tank" rfl (by decide +kernel) rfl (Nat.le_of_ble_eq_true rfl) (fun K hR => ?_)
  have v5 := zv_5 t ht
  have v6 := zv_6 t ht
  have v7 := zv_7 t ht
  have v8 := zv_8 t ht
  have v9 := zv_9 t ht
  have v10 := zv_10 t ht
  have v12 := zv_12 t ht
  have v16 := zv_16 t ht
  have v17 := zv_17 t ht
  have v18 := zv_18 t ht
  have loop : ∀ (f i : Nat), i ≤ n - 1 → n - 1 < i + f → Z K 3 "DyeTank$Tank" prog_4_method_13_code 3 4 [zR (5, t, 0), zI (mxf (fun r => absI (vel (μ (7, t, 0)) r - vel (μ (7, t, 0)) (r + 1))) i), zI (nI i)] [] μ := by
    intro f
    induction f with
    | zero => intro i h1 h2; exact absurd ‹_ < _ + 0› (by omega)
    | succ f ih =>
      intro i h1 h2
      refine z_iload_n dX2_greatestShear_4 rfl rfl ?_
      refine z_aload_n dX2_greatestShear_5 rfl rfl ?_
      refine zg_X2_rings dX2_greatestShear_6 tw_71 ?_
      refine z_top (hn) ?_
      refine z_iconst (v := 1) dX2_greatestShear_9 (by decide) ?_
      refine z_isub dX2_greatestShear_10 ?_
      refine z_top ((show nI n - nI 1 = nI (n - 1) from pk_sub (by omega))) ?_
      refine z_icmp_ge (tgt := 41) dX2_greatestShear_11 (by decide) (fun hb => ?_) (fun hb => ?_)
      · have hb := nle hb
        have e : i = n - 1 := by omega
        rw [e]
        refine z_iload_n dX2_greatestShear_41 rfl rfl ?_
        refine z_iret hR dX2_greatestShear_42 (⟨rfl, rfl⟩)
      · have hb := nnle hb
        refine z_iload_n dX2_greatestShear_14 rfl rfl ?_
        refine z_aload_n dX2_greatestShear_15 rfl rfl ?_
        refine z_iload_n dX2_greatestShear_16 rfl rfl ?_
        refine z_cVi (c_velocityOf μ t ht i (by omega)) q_X2_velocityOf tw_277 dX2_greatestShear_17 rfl rfl rfl (by omega) (Nat.le_of_ble_eq_true rfl) ?_
        refine z_aload_n dX2_greatestShear_20 rfl rfl ?_
        refine z_iload_n dX2_greatestShear_21 rfl rfl ?_
        refine z_iconst (v := 1) dX2_greatestShear_22 (by decide) ?_
        refine z_iadd dX2_greatestShear_23 ?_
        refine z_top ((nI_1 i)) ?_
        refine z_cVi (c_velocityOf μ t ht (i + 1) (by omega)) q_X2_velocityOf tw_277 dX2_greatestShear_24 rfl rfl rfl (by omega) (Nat.le_of_ble_eq_true rfl) ?_
        refine z_isub dX2_greatestShear_27 ?_
        refine z_mabs dX2_greatestShear_28 tw_289 ⟨by omega, Nat.le_of_ble_eq_true rfl⟩ ?_
        refine z_mmax dX2_greatestShear_31 tw_229 ⟨by omega, Nat.le_of_ble_eq_true rfl⟩ ?_
        refine z_istS_n dX2_greatestShear_34 rfl (by decide) rfl ?_
        refine z_incS dX2_greatestShear_35 rfl (inc1 _) (by decide) rfl ?_
        refine z_goto (tgt := 4) dX2_greatestShear_38 (by decide) ?_
        exact ih (i + 1) (by omega) (by omega)
  refine z_ls (ls' := [zR (5, t, 0), zN, zN]) rfl ?_
  refine z_iconst (v := 0) dX2_greatestShear_0 (by decide) ?_
  refine z_istS_n dX2_greatestShear_1 rfl (by decide) rfl ?_
  refine z_iconst (v := 0) dX2_greatestShear_2 (by decide) ?_
  refine z_istS_n dX2_greatestShear_3 rfl (by decide) rfl ?_
  exact loop n 0 (by omega) (by omega)
theorem c_turnsWithFloor (μ : zM) (t n : Nat) (ht : t < 4) (hn : μ (5, t, 0) 0 = nI n) (hn12 : n ≤ 12) (b : Int32) : zCi yX2_turnsWithFloor prog_4_method_14_code 3 (some .boolean) 3 [zR (5, t, 0), zI b] μ (zb (∀ r, r < n → absI (vel (μ (7, t, 0)) r - μ (6, t, 0) 4) ≤ b)) := by
  refine zCt.of "DyeTank$Tank" rfl (by decide +kernel) rfl (Nat.le_of_ble_eq_true rfl) (fun K hR => ?_)
  have v5 := zv_5 t ht
  have v6 := zv_6 t ht
  have v7 := zv_7 t ht
  have v8 := zv_8 t ht
  have v9 := zv_9 t ht
  have v10 := zv_10 t ht
  have v12 := zv_12 t ht
  have v16 := zv_16 t ht
  have v17 := zv_17 t ht
  have v18 := zv_18 t ht
  have loop : ∀ (f i : Nat), i ≤ n → n < i + f → (∀ r, r < i → absI (vel (μ (7, t, 0)) r - μ (6, t, 0) 4) ≤ b) → Z K 3 "DyeTank$Tank" prog_4_method_14_code 3 2 [zR (5, t, 0), zI b, zI (nI i)] [] μ := by
    intro f
    induction f with
    | zero => intro i h1 h2 h3; exact absurd ‹_ < _ + 0› (by omega)
    | succ f ih =>
      intro i h1 h2 hI
      refine z_iload_n dX2_turnsWithFloor_2 rfl rfl ?_
      refine z_aload_n dX2_turnsWithFloor_3 rfl rfl ?_
      refine zg_X2_rings dX2_turnsWithFloor_4 tw_71 ?_
      refine z_top (hn) ?_
      refine z_icmp_ge (tgt := 37) dX2_turnsWithFloor_7 (by decide) (fun hb => ?_) (fun hb => ?_)
      · have hb := nle hb
        have e : i = n := by omega
        subst e
        refine z_iconst (v := 1) dX2_turnsWithFloor_37 (by decide) ?_
        refine z_bret hR dX2_turnsWithFloor_38 (Or.inr rfl) ⟨rfl, by rw [zb_t hI]⟩
      · have hb := nnle hb
        refine z_aload_n dX2_turnsWithFloor_10 rfl rfl ?_
        refine z_iload_n dX2_turnsWithFloor_11 rfl rfl ?_
        refine z_cVi (c_velocityOf μ t ht i (by omega)) q_X2_velocityOf tw_277 dX2_turnsWithFloor_12 rfl rfl rfl (by omega) (Nat.le_of_ble_eq_true rfl) ?_
        refine z_aload_n dX2_turnsWithFloor_15 rfl rfl ?_
        refine zg_X2_settings dX2_turnsWithFloor_16 tw_77 ?_
        refine z_iconst (v := 4) dX2_turnsWithFloor_19 (by decide) ?_
        refine z_iald dX2_turnsWithFloor_20 (fun _ _ => rfl) rfl (i := 4) (by decide) ?_
        refine z_isub dX2_turnsWithFloor_21 ?_
        refine z_mabs dX2_turnsWithFloor_22 tw_289 ⟨by omega, Nat.le_of_ble_eq_true rfl⟩ ?_
        refine z_iload_n dX2_turnsWithFloor_25 rfl rfl ?_
        refine z_icmp_le (tgt := 31) dX2_turnsWithFloor_26 (by decide) (fun hc => ?_) (fun hc => ?_)
        · refine z_incS dX2_turnsWithFloor_31 rfl (inc1 _) (by decide) rfl ?_
          refine z_goto (tgt := 2) dX2_turnsWithFloor_34 (by decide) ?_
          refine ih (i + 1) (by omega) (by omega) ?_
          intro r hr
          rcases Nat.lt_or_ge r i with h | h
          · exact hI r h
          · have : r = i := by omega
            subst this
            exact hc
        · refine z_iconst (v := 0) dX2_turnsWithFloor_29 (by decide) ?_
          refine z_bret hR dX2_turnsWithFloor_30 (Or.inl rfl) ⟨rfl, by rw [zb_f (fun q => hc (q i hb))]⟩
  refine z_ls (ls' := [zR (5, t, 0), zI b, zN]) rfl ?_
  refine z_iconst (v := 0) dX2_turnsWithFloor_0 (by decide) ?_
  refine z_istS_n dX2_turnsWithFloor_1 rfl (by decide) rfl ?_
  exact loop (n + 1) 0 (by omega) (by omega) (fun r hr => absurd hr (by omega))
theorem c_cellsWith (μ : zM) (t : Nat) (ht : t < 4) (c : Nat) (hc : c < 3) : zCi yX2_cellsWith prog_4_method_20_code 5 (some .int) 1 [zR (5, t, 0), zI (nI c)] μ (cnf (μ (11, t, c)) 576) := by
  refine zCt.of "DyeTank$Tank" rfl (by decide +kernel) rfl (Nat.le_of_ble_eq_true rfl) (fun K hR => ?_)
  have v5 := zv_5 t ht
  have v6 := zv_6 t ht
  have v7 := zv_7 t ht
  have v8 := zv_8 t ht
  have v9 := zv_9 t ht
  have v10 := zv_10 t ht
  have v12 := zv_12 t ht
  have v16 := zv_16 t ht
  have v17 := zv_17 t ht
  have v18 := zv_18 t ht
  have v11 := zv_11 t ht c hc
  have loop : ∀ (f i : Nat), i ≤ 576 → 576 < i + f → Z K 1 "DyeTank$Tank" prog_4_method_20_code 5 12 [zR (5, t, 0), zI (nI c), zR (11, t, c), zI (cnf (μ (11, t, c)) i), zI (nI i)] [] μ := by
    intro f
    induction f with
    | zero => intro i h1 h2; exact absurd ‹_ < _ + 0› (by omega)
    | succ f ih =>
      intro i h1 h2
      refine z_iload dX2_cellsWith_12 rfl ?_
      refine z_aload_n dX2_cellsWith_14 rfl rfl ?_
      refine z_alen dX2_cellsWith_15 (fun _ _ => rfl) ?_
      refine z_icmp_ge (tgt := 35) dX2_cellsWith_16 (by decide) (fun hb => ?_) (fun hb => ?_)
      · have hb := nle hb
        have e : i = 576 := by omega
        subst e
        refine z_iload_n dX2_cellsWith_35 rfl rfl ?_
        refine z_iret hR dX2_cellsWith_36 (⟨rfl, rfl⟩)
      · have hb := nnle hb
        refine z_aload_n dX2_cellsWith_19 rfl rfl ?_
        refine z_iload dX2_cellsWith_20 rfl ?_
        refine z_iald dX2_cellsWith_22 (fun _ _ => rfl) rfl (by omega) ?_
        refine z_if_le (tgt := 29) dX2_cellsWith_23 (by decide) (fun hc => ?_) (fun hc => ?_)
        · refine z_incS dX2_cellsWith_29 rfl (inc1 _) (by decide) rfl ?_
          refine z_goto (tgt := 12) dX2_cellsWith_32 (by decide) ?_
          have e : cnf (μ (11, t, c)) (i + 1) = cnf (μ (11, t, c)) i := if_neg (Int32.not_lt.mpr hc)
          have := ih (i + 1) (by omega) (by omega)
          rw [e] at this
          exact this
        · refine z_incS dX2_cellsWith_26 rfl rfl (by decide) rfl ?_
          refine z_incS dX2_cellsWith_29 rfl (inc1 _) (by decide) rfl ?_
          refine z_goto (tgt := 12) dX2_cellsWith_32 (by decide) ?_
          have e : cnf (μ (11, t, c)) (i + 1) = cnf (μ (11, t, c)) i + 1 := if_pos (Int32.not_le.mp hc)
          have := ih (i + 1) (by omega) (by omega)
          rw [e] at this
          exact this
  refine z_ls (ls' := [zR (5, t, 0), zI (nI c), zN, zN, zN]) rfl ?_
  refine z_aload_n dX2_cellsWith_0 rfl rfl ?_
  refine zg_X2_dyes dX2_cellsWith_1 tw_85 ?_
  refine z_iload_n dX2_cellsWith_4 rfl rfl ?_
  refine z_ald10 dX2_cellsWith_5 rfl hc ?_
  refine z_astS_n dX2_cellsWith_6 rfl (by decide) rfl ?_
  refine z_iconst (v := 0) dX2_cellsWith_7 (by decide) ?_
  refine z_istS_n dX2_cellsWith_8 rfl (by decide) rfl ?_
  refine z_iconst (v := 0) dX2_cellsWith_9 (by decide) ?_
  refine z_istS dX2_cellsWith_10 (by decide) rfl ?_
  exact loop 577 0 (by omega) (by omega)
theorem c_greatestAmount (μ : zM) (t : Nat) (ht : t < 4) (c : Nat) (hc : c < 3) : zCi yX2_greatestAmount prog_4_method_21_code 5 (some .int) 1 [zR (5, t, 0), zI (nI c)] μ (mxf (μ (11, t, c)) 576) := by
  refine zCt.of "DyeTank$Tank" rfl (by decide +kernel) rfl (Nat.le_of_ble_eq_true rfl) (fun K hR => ?_)
  have v5 := zv_5 t ht
  have v6 := zv_6 t ht
  have v7 := zv_7 t ht
  have v8 := zv_8 t ht
  have v9 := zv_9 t ht
  have v10 := zv_10 t ht
  have v12 := zv_12 t ht
  have v16 := zv_16 t ht
  have v17 := zv_17 t ht
  have v18 := zv_18 t ht
  have v11 := zv_11 t ht c hc
  have loop : ∀ (f i : Nat), i ≤ 576 → 576 < i + f → Z K 1 "DyeTank$Tank" prog_4_method_21_code 5 12 [zR (5, t, 0), zI (nI c), zR (11, t, c), zI (mxf (μ (11, t, c)) i), zI (nI i)] [] μ := by
    intro f
    induction f with
    | zero => intro i h1 h2; exact absurd ‹_ < _ + 0› (by omega)
    | succ f ih =>
      intro i h1 h2
      refine z_iload dX2_greatestAmount_12 rfl ?_
      refine z_aload_n dX2_greatestAmount_14 rfl rfl ?_
      refine z_alen dX2_greatestAmount_15 (fun _ _ => rfl) ?_
      refine z_icmp_ge (tgt := 34) dX2_greatestAmount_16 (by decide) (fun hb => ?_) (fun hb => ?_)
      · have hb := nle hb
        have e : i = 576 := by omega
        subst e
        refine z_iload_n dX2_greatestAmount_34 rfl rfl ?_
        refine z_iret hR dX2_greatestAmount_35 (⟨rfl, rfl⟩)
      · have hb := nnle hb
        refine z_iload_n dX2_greatestAmount_19 rfl rfl ?_
        refine z_aload_n dX2_greatestAmount_20 rfl rfl ?_
        refine z_iload dX2_greatestAmount_21 rfl ?_
        refine z_iald dX2_greatestAmount_23 (fun _ _ => rfl) rfl (by omega) ?_
        refine z_mmax dX2_greatestAmount_24 tw_229 ⟨by omega, Nat.le_of_ble_eq_true rfl⟩ ?_
        refine z_istS_n dX2_greatestAmount_27 rfl (by decide) rfl ?_
        refine z_incS dX2_greatestAmount_28 rfl (inc1 _) (by decide) rfl ?_
        refine z_goto (tgt := 12) dX2_greatestAmount_31 (by decide) ?_
        exact ih (i + 1) (by omega) (by omega)
  refine z_ls (ls' := [zR (5, t, 0), zI (nI c), zN, zN, zN]) rfl ?_
  refine z_aload_n dX2_greatestAmount_0 rfl rfl ?_
  refine zg_X2_dyes dX2_greatestAmount_1 tw_85 ?_
  refine z_iload_n dX2_greatestAmount_4 rfl rfl ?_
  refine z_ald10 dX2_greatestAmount_5 rfl hc ?_
  refine z_astS_n dX2_greatestAmount_6 rfl (by decide) rfl ?_
  refine z_iconst (v := 0) dX2_greatestAmount_7 (by decide) ?_
  refine z_istS_n dX2_greatestAmount_8 rfl (by decide) rfl ?_
  refine z_iconst (v := 0) dX2_greatestAmount_9 (by decide) ?_
  refine z_istS dX2_greatestAmount_10 (by decide) rfl ?_
  exact loop 577 0 (by omega) (by omega)
theorem toI64_ne {x : Int32} (h : ¬ x = 0) : ¬ x.toInt64 = 0 := by
  intro q
  apply h
  have h1 : x.toInt64.toInt = x.toInt := Int32.toInt_toInt64 x
  rw [q] at h1
  exact Int32.toInt_inj.mp (by rw [← h1]; rfl)
theorem c_meanPlace (μ : zM) (t n : Nat) (ht : t < 4) (hn : μ (5, t, 0) 0 = nI n) (hn12 : n ≤ 12) (c : Nat) (hc : c < 3) : zCl yX2_meanPlace prog_4_method_22_code 5 (some .long) 4 [zR (5, t, 0), zI (nI c)] μ (meanP (μ (11, t, c)) n (μ (9, t, 0) c)) := by
  refine zCt.of "DyeTank$Tank" rfl (by decide +kernel) rfl (Nat.le_of_ble_eq_true rfl) (fun K hR => ?_)
  have v5 := zv_5 t ht
  have v6 := zv_6 t ht
  have v7 := zv_7 t ht
  have v8 := zv_8 t ht
  have v9 := zv_9 t ht
  have v10 := zv_10 t ht
  have v12 := zv_12 t ht
  have v16 := zv_16 t ht
  have v17 := zv_17 t ht
  have v18 := zv_18 t ht
  refine z_ls (ls' := [zR (5, t, 0), zI (nI c), zN, zN, zN]) rfl ?_
  refine z_aload_n dX2_meanPlace_0 rfl rfl ?_
  refine zg_X2_totals dX2_meanPlace_1 tw_83 ?_
  refine z_iload_n dX2_meanPlace_4 rfl rfl ?_
  refine z_iald dX2_meanPlace_5 (fun _ _ => rfl) rfl hc ?_
  refine z_if_ne (tgt := 13) dX2_meanPlace_6 (by decide) (fun h0 => ?_) (fun h0 => ?_)
  · have loop : ∀ (f i : Nat), i ≤ n → n < i + f → Z K 4 "DyeTank$Tank" prog_4_method_22_code 5 18 [zR (5, t, 0), zI (nI c), zL (sml (fun r => (nI r).toInt64 * (ringS (μ (11, t, c)) r).toInt64) i), zN, zI (nI i)] [] μ := by
      intro f
      induction f with
      | zero => intro i h1 h2; exact absurd ‹_ < _ + 0› (by omega)
      | succ f ih =>
        intro i h1 h2
        refine z_iload dX2_meanPlace_18 rfl ?_
        refine z_aload_n dX2_meanPlace_20 rfl rfl ?_
        refine zg_X2_rings dX2_meanPlace_21 tw_71 ?_
        refine z_top (hn) ?_
        refine z_icmp_ge (tgt := 48) dX2_meanPlace_24 (by decide) (fun hb => ?_) (fun hb => ?_)
        · have hb := nle hb
          have e : i = n := by omega
          subst e
          refine z_ldc2 (v := 1000) dX2_meanPlace_48 tw_297 ?_
          refine z_lload_n dX2_meanPlace_51 rfl rfl ?_
          refine z_lmul dX2_meanPlace_52 ?_
          refine z_aload_n dX2_meanPlace_53 rfl rfl ?_
          refine zg_X2_totals dX2_meanPlace_54 tw_83 ?_
          refine z_iload_n dX2_meanPlace_57 rfl rfl ?_
          refine z_iald dX2_meanPlace_58 (fun _ _ => rfl) rfl hc ?_
          refine z_i2l dX2_meanPlace_59 ?_
          refine z_ldiv dX2_meanPlace_60 (toI64_ne h0) ?_
          refine z_lret hR dX2_meanPlace_61 (⟨rfl, by rw [meanP, if_neg h0]⟩)
        · have hb := nnle hb
          refine z_lload_n dX2_meanPlace_27 rfl rfl ?_
          refine z_iload dX2_meanPlace_28 rfl ?_
          refine z_i2l dX2_meanPlace_30 ?_
          refine z_aload_n dX2_meanPlace_31 rfl rfl ?_
          refine z_iload_n dX2_meanPlace_32 rfl rfl ?_
          refine z_iload dX2_meanPlace_33 rfl ?_
          refine z_cVi (c_amountInRing μ t ht c i hc (by omega)) q_X2_amountInRing tw_366 dX2_meanPlace_35 rfl rfl rfl (by omega) (Nat.le_of_ble_eq_true rfl) ?_
          refine z_i2l dX2_meanPlace_38 ?_
          refine z_lmul dX2_meanPlace_39 ?_
          refine z_ladd dX2_meanPlace_40 ?_
          refine z_lstS_n dX2_meanPlace_41 rfl (by decide) rfl ?_
          refine z_incS dX2_meanPlace_42 rfl (inc1 _) (by decide) rfl ?_
          refine z_goto (tgt := 18) dX2_meanPlace_45 (by decide) ?_
          exact ih (i + 1) (by omega) (by omega)
    refine z_lconst (v := 0) dX2_meanPlace_13 (by decide) ?_
    refine z_lstS_n dX2_meanPlace_14 rfl (by decide) rfl ?_
    refine z_iconst (v := 0) dX2_meanPlace_15 (by decide) ?_
    refine z_istS dX2_meanPlace_16 (by decide) rfl ?_
    exact loop (n + 1) 0 (by omega) (by omega)
  · refine z_ldc2 (v := -6) dX2_meanPlace_9 tw_365 ?_
    refine z_lret hR dX2_meanPlace_12 (⟨rfl, by rw [meanP, if_pos h0]⟩)
def unevS (f : Nat → Int32) (n : Nat) (all : Int64) (L : Nat) : Int64 := sml (fun k => absL ((f (rwi L 0 + k)).toInt64 * (2 * (nI n).toInt64 * 24) - all)) (24 * n)
def unev (f : Nat → Int32) (n : Nat) (all : Int64) : Int64 := (unevS f n all 0 + unevS f n all 1) / (2 * (nI n).toInt64 * 24)
theorem cells_ne {n : Nat} (h1 : 1 ≤ n) (h2 : n ≤ 12) : ¬ (2 * (nI n).toInt64 * 24) = 0 := by
  have h : n = 1 ∨ n = 2 ∨ n = 3 ∨ n = 4 ∨ n = 5 ∨ n = 6 ∨ n = 7 ∨ n = 8 ∨ n = 9 ∨ n = 10 ∨ n = 11 ∨ n = 12 := by omega
  rcases h with rfl | rfl | rfl | rfl | rfl | rfl | rfl | rfl | rfl | rfl | rfl | rfl <;> decide +kernel
theorem cells_max {n : Nat} (h1 : 1 ≤ n) (h2 : n ≤ 12) : (if (1 : Int32) < 2 * nI n * 24 then 2 * nI n * 24 else (1 : Int32)).toInt64 = 2 * (nI n).toInt64 * 24 := by
  have h : n = 1 ∨ n = 2 ∨ n = 3 ∨ n = 4 ∨ n = 5 ∨ n = 6 ∨ n = 7 ∨ n = 8 ∨ n = 9 ∨ n = 10 ∨ n = 11 ∨ n = 12 := by omega
  rcases h with rfl | rfl | rfl | rfl | rfl | rfl | rfl | rfl | rfl | rfl | rfl | rfl <;> decide +kernel
theorem c_unevenness (μ : zM) (t n : Nat) (ht : t < 4) (hn : μ (5, t, 0) 0 = nI n) (hn2 : 2 ≤ n) (hn12 : n ≤ 12) (c : Nat) (hc : c < 3) : zCl yX2_unevenness prog_4_method_23_code 11 (some .long) 2 [zR (5, t, 0), zI (nI c)] μ (unev (μ (11, t, c)) n (μ (9, t, 0) c).toInt64) := by
  refine zCt.of "DyeTank$Tank" rfl (by decide +kernel) rfl (Nat.le_of_ble_eq_true rfl) (fun K hR => ?_)
  have v5 := zv_5 t ht
  have v6 := zv_6 t ht
  have v7 := zv_7 t ht
  have v8 := zv_8 t ht
  have v9 := zv_9 t ht
  have v10 := zv_10 t ht
  have v12 := zv_12 t ht
  have v16 := zv_16 t ht
  have v17 := zv_17 t ht
  have v18 := zv_18 t ht
  have v11 := zv_11 t ht c hc
  have inner : ∀ (L : Nat) (lv : Int32), lv = nI L → L < 2 → ∀ (cs s0 : Int64), cs = 2 * (nI n).toInt64 * 24 → ∀ (f i : Nat) (s : Int64), i ≤ 24 * n → 24 * n < i + f → s = s0 + sml (fun k => absL ((μ (11, t, c) (rwi L 0 + k)).toInt64 * (2 * (nI n).toInt64 * 24) - (μ (9, t, 0) c).toInt64)) i → (∀ s', s' = s0 + unevS (μ (11, t, c)) n (μ (9, t, 0) c).toInt64 L → Z K 2 "DyeTank$Tank" prog_4_method_23_code 11 92 [zR (5, t, 0), zI (nI c), zL (μ (9, t, 0) c).toInt64, zN, zL cs, zN, zL s', zN, zI lv, zI (nI (rwi L 0)), zI (nI (rwi L 0 + 24 * n))] [] μ) → Z K 2 "DyeTank$Tank" prog_4_method_23_code 11 48 [zR (5, t, 0), zI (nI c), zL (μ (9, t, 0) c).toInt64, zN, zL cs, zN, zL s, zN, zI lv, zI (nI (rwi L 0)), zI (nI (rwi L 0 + i))] [] μ := by
    intro L lv hlv hL cs s0 hcs
    have hrw : rwi L 0 + 288 ≤ 576 := by unfold rwi; omega
    intro f
    induction f with
    | zero => intro i s h1 h2 h3 h4; exact absurd ‹_ < _ + 0› (by omega)
    | succ f ih =>
      intro i s h1 h2 hs hend
      refine z_iload dX2_unevenness_48 rfl ?_
      refine z_iload dX2_unevenness_50 rfl ?_
      refine z_aload_n dX2_unevenness_52 rfl rfl ?_
      refine zg_X2_rings dX2_unevenness_53 tw_71 ?_
      refine z_top (hn) ?_
      refine z_bipush (v := 24) dX2_unevenness_56 (by decide) ?_
      refine z_imul dX2_unevenness_58 ?_
      refine z_top ((show nI n * nI 24 = nI (24 * n) by rw [pk_mul, Nat.mul_comm])) ?_
      refine z_iadd dX2_unevenness_59 ?_
      refine z_top ((nI_add _ _)) ?_
      refine z_icmp_ge (tgt := 92) dX2_unevenness_60 (by decide) (fun hb => ?_) (fun hb => ?_)
      · have hb := nle hb
        have e : i = 24 * n := by omega
        subst e
        exact hend s hs
      · have hb := nnle hb
        refine z_lload dX2_unevenness_63 rfl ?_
        refine z_aload_n dX2_unevenness_65 rfl rfl ?_
        refine zg_X2_dyes dX2_unevenness_66 tw_85 ?_
        refine z_iload_n dX2_unevenness_69 rfl rfl ?_
        refine z_ald10 dX2_unevenness_70 rfl hc ?_
        refine z_iload dX2_unevenness_71 rfl ?_
        refine z_iald dX2_unevenness_73 (fun _ _ => rfl) rfl (by omega) ?_
        refine z_i2l dX2_unevenness_74 ?_
        refine z_lload dX2_unevenness_75 rfl ?_
        refine z_lmul dX2_unevenness_77 ?_
        refine z_lload_n dX2_unevenness_78 rfl rfl ?_
        refine z_lsub dX2_unevenness_79 ?_
        refine z_mabsl dX2_unevenness_80 tw_371 ⟨by omega, Nat.le_of_ble_eq_true rfl⟩ ?_
        refine z_ladd dX2_unevenness_83 ?_
        refine z_lstS dX2_unevenness_84 (by decide) rfl ?_
        refine z_incS dX2_unevenness_86 rfl (inc1 _) (by decide) rfl ?_
        refine z_goto (tgt := 48) dX2_unevenness_89 (by decide) ?_
        refine ih (i + 1) _ (by omega) (by omega) ?_ hend
        rw [hs, sml, ← Int64.add_assoc, hcs]
        rfl
  refine z_ls (ls' := [zR (5, t, 0), zI (nI c), zN, zN, zN, zN, zN, zN, zN, zN, zN]) rfl ?_
  refine z_aload_n dX2_unevenness_0 rfl rfl ?_
  refine zg_X2_totals dX2_unevenness_1 tw_83 ?_
  refine z_iload_n dX2_unevenness_4 rfl rfl ?_
  refine z_iald dX2_unevenness_5 (fun _ _ => rfl) rfl hc ?_
  refine z_i2l dX2_unevenness_6 ?_
  refine z_lstS_n dX2_unevenness_7 rfl (by decide) rfl ?_
  refine z_iconst (v := 1) dX2_unevenness_8 (by decide) ?_
  refine z_iconst (v := 2) dX2_unevenness_9 (by decide) ?_
  refine z_aload_n dX2_unevenness_10 rfl rfl ?_
  refine zg_X2_rings dX2_unevenness_11 tw_71 ?_
  refine z_top (hn) ?_
  refine z_imul dX2_unevenness_14 ?_
  refine z_bipush (v := 24) dX2_unevenness_15 (by decide) ?_
  refine z_imul dX2_unevenness_17 ?_
  refine z_mmax dX2_unevenness_18 tw_229 ⟨by omega, Nat.le_of_ble_eq_true rfl⟩ ?_
  refine z_i2l dX2_unevenness_21 ?_
  refine z_topl ((cells_max (by omega) hn12)) ?_
  generalize hcs : 2 * (nI n).toInt64 * 24 = cs
  refine z_lstS dX2_unevenness_22 (by decide) rfl ?_
  refine z_lconst (v := 0) dX2_unevenness_24 (by decide) ?_
  refine z_lstS dX2_unevenness_25 (by decide) rfl ?_
  refine z_iconst (v := 0) dX2_unevenness_27 (by decide) ?_
  refine z_istS dX2_unevenness_28 (by decide) rfl ?_
  refine z_iload dX2_unevenness_30 rfl ?_
  refine z_iconst (v := 1) dX2_unevenness_32 (by decide) ?_
  refine z_icmp_gt (tgt := 98) dX2_unevenness_33 (by decide) (fun h9 => absurd h9 ((show ¬ (1 : Int32) < 0 by decide))) (fun _ => ?_)
  refine z_iload dX2_unevenness_36 rfl ?_
  refine z_iconst (v := 0) dX2_unevenness_38 (by decide) ?_
  refine z_cSi (c_rowOf μ 0 0) q_X2_rowOf tw_254 dX2_unevenness_39 rfl rfl (by omega) (Nat.le_of_ble_eq_true rfl) ?_
  refine z_istS dX2_unevenness_42 (by decide) rfl ?_
  refine z_iload dX2_unevenness_44 rfl ?_
  refine z_istS dX2_unevenness_46 (by decide) rfl ?_
  refine inner 0 0 (by decide) (by decide) cs 0 hcs.symm (24 * n + 1) 0 0 (by omega) (by omega) (by rw [sml, Int64.add_zero]) (fun s1 hs1 => ?_)
  refine z_incS dX2_unevenness_92 rfl (show (0 : Int32) + Int32.ofInt 1 = 1 by decide) (by decide) rfl ?_
  refine z_goto (tgt := 30) dX2_unevenness_95 (by decide) ?_
  refine z_iload dX2_unevenness_30 rfl ?_
  refine z_iconst (v := 1) dX2_unevenness_32 (by decide) ?_
  refine z_icmp_gt (tgt := 98) dX2_unevenness_33 (by decide) (fun h9 => absurd h9 ((show ¬ (1 : Int32) < 1 by decide))) (fun _ => ?_)
  refine z_iload dX2_unevenness_36 rfl ?_
  refine z_iconst (v := 0) dX2_unevenness_38 (by decide) ?_
  refine z_cSi (c_rowOf μ 1 0) q_X2_rowOf tw_254 dX2_unevenness_39 rfl rfl (by omega) (Nat.le_of_ble_eq_true rfl) ?_
  refine z_istS dX2_unevenness_42 (by decide) rfl ?_
  refine z_iload dX2_unevenness_44 rfl ?_
  refine z_istS dX2_unevenness_46 (by decide) rfl ?_
  refine inner 1 1 (by decide) (by decide) cs s1 hcs.symm (24 * n + 1) 0 s1 (by omega) (by omega) (by rw [sml, Int64.add_zero]) (fun s2 hs2 => ?_)
  refine z_incS dX2_unevenness_92 rfl (show (1 : Int32) + Int32.ofInt 1 = 2 by decide) (by decide) rfl ?_
  refine z_goto (tgt := 30) dX2_unevenness_95 (by decide) ?_
  refine z_iload dX2_unevenness_30 rfl ?_
  refine z_iconst (v := 1) dX2_unevenness_32 (by decide) ?_
  refine z_icmp_gt (tgt := 98) dX2_unevenness_33 (by decide) (fun _ => ?_) (fun h9 => absurd ((show (1 : Int32) < 2 by decide)) h9)
  refine z_lload dX2_unevenness_98 rfl ?_
  refine z_lload dX2_unevenness_100 rfl ?_
  refine z_ldiv dX2_unevenness_102 (by rw [← hcs]; exact cells_ne (by omega) hn12) ?_
  refine z_lret hR dX2_unevenness_103 (⟨rfl, by rw [hs2, hs1, Int64.zero_add, unev, hcs]⟩)
