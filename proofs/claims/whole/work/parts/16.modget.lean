/-! the reference's row of numbers, read as a tank -/
def aS (a : Nat → Int32) (j : Nat) : Int32 := a (2 + j)
def aP (a : Nat → Int32) (r : Nat) : Int32 := a (9 + r)
def aA (a : Nat → Int32) (r : Nat) : Int32 := a (21 + r)
def aD (a : Nat → Int32) (c i : Nat) : Int32 := a (658 + 576 * c + i)
def allA (f : Nat → Int32) (n : Nat) : Int32 := sm (rowS f 0) n + sm (rowS f 1) n
theorem wt_pos {r : Nat} (h : r < 100) : 0 < (nI (2 * r + 1)).toInt := by rw [nI_toInt (by omega)]; omega
theorem clP_le {x : Int32} : (if x < -500 then -500 else if 500 < x then (500 : Int32) else x) = clP x := rfl
theorem absL_eq (x : Int64) : (if x < 0 then -x else x) = absL x := by
  unfold absL
  by_cases h : x < 0
  · rw [if_pos h, if_neg (by rw [Int64.not_lt]; exact Int64.le_of_lt h)]
  · rw [if_neg h]
    by_cases h2 : 0 < x
    · rw [if_pos h2]
    · rw [if_neg h2]
      have : x = 0 := Int64.le_antisymm (Int64.not_lt.mp h2) (Int64.not_lt.mp h)
      rw [this]
      decide
theorem absI_ge {x : Int32} (h : 0 ≤ x) : absI x = x := if_pos h
theorem absI_lt {x : Int32} (h : ¬ 0 ≤ x) : absI x = -x := by unfold absI; rw [if_neg h, Int32.zero_sub]
theorem cells48 (x : Int64) : 48 * x = 2 * x * 24 := by
  rw [Int64.mul_comm 2 x, Int64.mul_assoc, Int64.mul_comm 48 x]
  rfl
theorem m_isRing (μ : zM) (x : Int32) : zCi yX4_isRing prog_6_method_8_code 2 (some .boolean) 2 [zR (20, 0, 0), zI x] μ (zb (0 ≤ x ∧ x ≤ μ (21, 0, 0) 0 - 1)) := by
  refine zCt.of "DyeTankModel" rfl (by decide +kernel) rfl (Nat.le_of_ble_eq_true rfl) (fun K hR => ?_)
  have v20 := zv_20
  have v21 := zv_21
  have v22 := zv_22
  have v23 := zv_23
  have v24 := zv_24
  have v25 := zv_25
  have v26 := zv_26
  have v27 := zv_27
  have v28 := zv_28
  refine z_ls (ls' := [zR (20, 0, 0), zI x]) rfl ?_
  refine z_iload_n dX4_isRing_0 rfl rfl ?_
  refine z_iconst (v := 0) dX4_isRing_1 (by decide) ?_
  refine z_aload_n dX4_isRing_2 rfl rfl ?_
  refine zg_X4_at dX4_isRing_3 tw_552 ?_
  refine z_iconst (v := 0) dX4_isRing_6 (by decide) ?_
  refine z_iald dX4_isRing_7 (fun _ _ => rfl) rfl (i := 0) (by decide) ?_
  refine z_iconst (v := 1) dX4_isRing_8 (by decide) ?_
  refine z_isub dX4_isRing_9 ?_
  refine z_cSi (c_in μ _ _ _) q_X4_in tw_593 dX4_isRing_10 rfl rfl (by omega) (Nat.le_of_ble_eq_true rfl) ?_
  refine z_bret hR dX4_isRing_13 ?_ ⟨rfl, rfl⟩
  unfold zb
  split
  · exact Or.inr rfl
  · exact Or.inl rfl
theorem m_isMarker (μ : zM) (x : Int32) : zCi yX4_isMarker prog_6_method_42_code 2 (some .boolean) 2 [zR (20, 0, 0), zI x] μ (zb (0 ≤ x ∧ x ≤ μ (21, 0, 0) 33 - 1)) := by
  refine zCt.of "DyeTankModel" rfl (by decide +kernel) rfl (Nat.le_of_ble_eq_true rfl) (fun K hR => ?_)
  have v20 := zv_20
  have v21 := zv_21
  have v22 := zv_22
  have v23 := zv_23
  have v24 := zv_24
  have v25 := zv_25
  have v26 := zv_26
  have v27 := zv_27
  have v28 := zv_28
  refine z_ls (ls' := [zR (20, 0, 0), zI x]) rfl ?_
  refine z_iload_n dX4_isMarker_0 rfl rfl ?_
  refine z_iconst (v := 0) dX4_isMarker_1 (by decide) ?_
  refine z_aload_n dX4_isMarker_2 rfl rfl ?_
  refine zg_X4_at dX4_isMarker_3 tw_552 ?_
  refine z_bipush (v := 33) dX4_isMarker_6 (by decide) ?_
  refine z_iald dX4_isMarker_8 (fun _ _ => rfl) rfl (i := 33) (by decide) ?_
  refine z_iconst (v := 1) dX4_isMarker_9 (by decide) ?_
  refine z_isub dX4_isMarker_10 ?_
  refine z_cSi (c_in μ _ _ _) q_X4_in tw_593 dX4_isMarker_11 rfl rfl (by omega) (Nat.le_of_ble_eq_true rfl) ?_
  refine z_bret hR dX4_isMarker_14 ?_ ⟨rfl, rfl⟩
  unfold zb
  split
  · exact Or.inr rfl
  · exact Or.inl rfl
theorem m_velocity (μ : zM) (r : Nat) (hr : r < 12) : zCi yX4_velocity prog_6_method_9_code 2 (some .int) 2 [zR (20, 0, 0), zI (nI r)] μ (vel (aP (μ (21, 0, 0))) r) := by
  refine zCt.of "DyeTankModel" rfl (by decide +kernel) rfl (Nat.le_of_ble_eq_true rfl) (fun K hR => ?_)
  have v20 := zv_20
  have v21 := zv_21
  have v22 := zv_22
  have v23 := zv_23
  have v24 := zv_24
  have v25 := zv_25
  have v26 := zv_26
  have v27 := zv_27
  have v28 := zv_28
  refine z_ls (ls' := [zR (20, 0, 0), zI (nI r)]) rfl ?_
  refine z_aload_n dX4_velocity_0 rfl rfl ?_
  refine zg_X4_at dX4_velocity_1 tw_552 ?_
  refine z_bipush (v := 9) dX4_velocity_4 (by decide) ?_
  refine z_iload_n dX4_velocity_6 rfl rfl ?_
  refine z_iadd dX4_velocity_7 ?_
  refine z_iald dX4_velocity_8 (fun _ _ => rfl) (nI_add 9 r) (show 9 + r < 2386 by omega) ?_
  refine z_iconst (v := 2) dX4_velocity_9 (by decide) ?_
  refine z_iload_n dX4_velocity_10 rfl rfl ?_
  refine z_imul dX4_velocity_11 ?_
  refine z_iconst (v := 1) dX4_velocity_12 (by decide) ?_
  refine z_iadd dX4_velocity_13 ?_
  refine z_top ((wt_eq r)) ?_
  refine z_cSi (c_down μ _ _ (wt_ne (by omega))) q_X4_down tw_620 dX4_velocity_14 rfl rfl (by omega) (Nat.le_of_ble_eq_true rfl) ?_
  refine z_iret hR dX4_velocity_17 (⟨rfl, by rw [← fdv_down (wt_pos (by omega))]; rfl⟩)
theorem m_push (μ : zM) (r : Nat) (hr : r < 12) : zCi yX4_push prog_6_method_24_code 3 (some .int) 3 [zR (20, 0, 0), zI (nI r)] μ (psh (aS (μ (21, 0, 0))) (aP (μ (21, 0, 0))) r) := by
  refine zCt.of "DyeTankModel" rfl (by decide +kernel) rfl (Nat.le_of_ble_eq_true rfl) (fun K hR => ?_)
  have v20 := zv_20
  have v21 := zv_21
  have v22 := zv_22
  have v23 := zv_23
  have v24 := zv_24
  have v25 := zv_25
  have v26 := zv_26
  have v27 := zv_27
  have v28 := zv_28
  refine z_ls (ls' := [zR (20, 0, 0), zI (nI r), zN]) rfl ?_
  refine z_aload_n dX4_push_0 rfl rfl ?_
  refine zg_X4_at dX4_push_1 tw_552 ?_
  refine z_bipush (v := 7) dX4_push_4 (by decide) ?_
  refine z_iald dX4_push_6 (fun _ _ => rfl) rfl (i := 7) (by decide) ?_
  refine z_aload_n dX4_push_7 rfl rfl ?_
  refine z_iload_n dX4_push_8 rfl rfl ?_
  refine z_cVi (m_velocity μ r hr) q_X4_velocity tw_616 dX4_push_9 rfl rfl rfl (by omega) (Nat.le_of_ble_eq_true rfl) ?_
  refine z_aload_n dX4_push_12 rfl rfl ?_
  refine zg_X4_at dX4_push_13 tw_552 ?_
  refine z_bipush (v := 6) dX4_push_16 (by decide) ?_
  refine z_iald dX4_push_18 (fun _ _ => rfl) rfl (i := 6) (by decide) ?_
  refine z_isub dX4_push_19 ?_
  refine z_imul dX4_push_20 ?_
  refine z_bipush (v := 100) dX4_push_21 (by decide) ?_
  refine z_idiv dX4_push_23 (by decide) ?_
  refine z_top ((show _ = aS (μ (21, 0, 0)) 5 * (vel (aP (μ (21, 0, 0))) r - aS (μ (21, 0, 0)) 4) / 100 from rfl)) ?_
  refine z_istS_n dX4_push_24 rfl (by decide) rfl ?_
  refine z_iload_n dX4_push_25 rfl rfl ?_
  refine z_sipush (v := -500) dX4_push_26 (by decide) ?_
  refine z_icmp_ge (tgt := 38) dX4_push_29 (by decide) (fun h1 => ?_) (fun h1 => ?_)
  · refine z_iload_n dX4_push_38 rfl rfl ?_
    refine z_sipush (v := 500) dX4_push_39 (by decide) ?_
    refine z_icmp_le (tgt := 51) dX4_push_42 (by decide) (fun h2 => ?_) (fun h2 => ?_)
    · refine z_iload_n dX4_push_51 rfl rfl ?_
      refine z_iret hR dX4_push_52 (⟨rfl, by unfold psh clP; rw [if_neg (by rw [Int32.not_lt]; exact h1), if_neg (by rw [Int32.not_lt]; exact h2)]⟩)
    · refine z_sipush (v := 500) dX4_push_45 (by decide) ?_
      refine z_goto (tgt := 52) dX4_push_48 (by decide) ?_
      refine z_iret hR dX4_push_52 (⟨rfl, by unfold psh clP; rw [if_neg (by rw [Int32.not_lt]; exact h1), if_pos (Int32.not_le.mp h2)]⟩)
  · refine z_sipush (v := -500) dX4_push_32 (by decide) ?_
    refine z_goto (tgt := 52) dX4_push_35 (by decide) ?_
    refine z_iret hR dX4_push_52 (⟨rfl, by unfold psh clP; rw [if_pos (Int32.not_le.mp h1)]⟩)
theorem m_momenta (μ : zM) (n : Nat) (hn : μ (21, 0, 0) 0 = nI n) (hn12 : n ≤ 12) : zCi yX4_momenta prog_6_method_15_code 3 (some .int) 1 [zR (20, 0, 0)] μ (sm (aP (μ (21, 0, 0))) n) := by
  refine zCt.of "DyeTankModel" rfl (by decide +kernel) rfl (Nat.le_of_ble_eq_true rfl) (fun K hR => ?_)
  have v20 := zv_20
  have v21 := zv_21
  have v22 := zv_22
  have v23 := zv_23
  have v24 := zv_24
  have v25 := zv_25
  have v26 := zv_26
  have v27 := zv_27
  have v28 := zv_28
  have loop : ∀ (f i : Nat), i ≤ n → n < i + f → Z K 1 "DyeTankModel" prog_6_method_15_code 3 4 [zR (20, 0, 0), zI (sm (aP (μ (21, 0, 0))) i), zI (nI i)] [] μ := by
    intro f
    induction f with
    | zero => intro i h1 h2; exact absurd ‹_ < _ + 0› (by omega)
    | succ f ih =>
      intro i h1 h2
      refine z_iload_n dX4_momenta_4 rfl rfl ?_
      refine z_aload_n dX4_momenta_5 rfl rfl ?_
      refine zg_X4_at dX4_momenta_6 tw_552 ?_
      refine z_iconst (v := 0) dX4_momenta_9 (by decide) ?_
      refine z_iald dX4_momenta_10 (fun _ _ => rfl) rfl (i := 0) (by decide) ?_
      refine z_top (hn) ?_
      refine z_icmp_ge (tgt := 32) dX4_momenta_11 (by decide) (fun hb => ?_) (fun hb => ?_)
      · have hb := nle hb
        have e : i = n := by omega
        subst e
        refine z_iload_n dX4_momenta_32 rfl rfl ?_
        refine z_iret hR dX4_momenta_33 (⟨rfl, rfl⟩)
      · have hb := nnle hb
        refine z_iload_n dX4_momenta_14 rfl rfl ?_
        refine z_aload_n dX4_momenta_15 rfl rfl ?_
        refine zg_X4_at dX4_momenta_16 tw_552 ?_
        refine z_bipush (v := 9) dX4_momenta_19 (by decide) ?_
        refine z_iload_n dX4_momenta_21 rfl rfl ?_
        refine z_iadd dX4_momenta_22 ?_
        refine z_iald dX4_momenta_23 (fun _ _ => rfl) (nI_add 9 i) (show 9 + i < 2386 by omega) ?_
        refine z_iadd dX4_momenta_24 ?_
        refine z_istS_n dX4_momenta_25 rfl (by decide) rfl ?_
        refine z_incS dX4_momenta_26 rfl (inc1 _) (by decide) rfl ?_
        refine z_goto (tgt := 4) dX4_momenta_29 (by decide) ?_
        exact ih (i + 1) (by omega) (by omega)
  refine z_ls (ls' := [zR (20, 0, 0), zN, zN]) rfl ?_
  refine z_iconst (v := 0) dX4_momenta_0 (by decide) ?_
  refine z_istS_n dX4_momenta_1 rfl (by decide) rfl ?_
  refine z_iconst (v := 0) dX4_momenta_2 (by decide) ?_
  refine z_istS_n dX4_momenta_3 rfl (by decide) rfl ?_
  exact loop (n + 1) 0 (by omega) (by omega)
theorem m_dyeAt (μ : zM) (c L r j : Nat) : zCi yX4_dyeAt prog_6_method_17_code 4 (some .int) 1 [zI (nI c), zI (nI L), zI (nI r), zI (nI j)] μ (nI (576 * c + (rwi L r + j))) := by
  refine zCt.of "DyeTankModel" rfl (by decide +kernel) rfl (Nat.le_of_ble_eq_true rfl) (fun K hR => ?_)
  have e : nI 24 * (nI 12 * (nI 2 * nI c + nI L) + nI r) + nI j = nI (576 * c + (rwi L r + j)) := by
    rw [pk_mul, nI_add, pk_mul, nI_add, pk_mul, nI_add]
    congr 1
    unfold rwi
    omega
  refine z_ls (ls' := [zI (nI c), zI (nI L), zI (nI r), zI (nI j)]) rfl ?_
  refine z_bipush (v := 24) dX4_dyeAt_0 (by decide) ?_
  refine z_bipush (v := 12) dX4_dyeAt_2 (by decide) ?_
  refine z_iconst (v := 2) dX4_dyeAt_4 (by decide) ?_
  refine z_iload_n dX4_dyeAt_5 rfl rfl ?_
  refine z_imul dX4_dyeAt_6 ?_
  refine z_iload_n dX4_dyeAt_7 rfl rfl ?_
  refine z_iadd dX4_dyeAt_8 ?_
  refine z_imul dX4_dyeAt_9 ?_
  refine z_iload_n dX4_dyeAt_10 rfl rfl ?_
  refine z_iadd dX4_dyeAt_11 ?_
  refine z_imul dX4_dyeAt_12 ?_
  refine z_iload_n dX4_dyeAt_13 rfl rfl ?_
  refine z_iadd dX4_dyeAt_14 ?_
  refine z_top (e) ?_
  refine z_iret hR dX4_dyeAt_15 (⟨rfl, rfl⟩)
theorem m_cellIn (μ : zM) (r : Nat) (hr : r < 12) (x : Int32) : zCi yX4_cellIn prog_6_method_18_code 3 (some .int) 2 [zR (20, 0, 0), zI (nI r), zI x] μ (fmd (x - aA (μ (21, 0, 0)) r / 150) 24) := by
  refine zCt.of "DyeTankModel" rfl (by decide +kernel) rfl (Nat.le_of_ble_eq_true rfl) (fun K hR => ?_)
  have v20 := zv_20
  have v21 := zv_21
  have v22 := zv_22
  have v23 := zv_23
  have v24 := zv_24
  have v25 := zv_25
  have v26 := zv_26
  have v27 := zv_27
  have v28 := zv_28
  refine z_ls (ls' := [zR (20, 0, 0), zI (nI r), zI x]) rfl ?_
  refine z_iload_n dX4_cellIn_0 rfl rfl ?_
  refine z_aload_n dX4_cellIn_1 rfl rfl ?_
  refine zg_X4_at dX4_cellIn_2 tw_552 ?_
  refine z_bipush (v := 21) dX4_cellIn_5 (by decide) ?_
  refine z_iload_n dX4_cellIn_7 rfl rfl ?_
  refine z_iadd dX4_cellIn_8 ?_
  refine z_iald dX4_cellIn_9 (fun _ _ => rfl) (nI_add 21 r) (show 21 + r < 2386 by omega) ?_
  refine z_sipush (v := 150) dX4_cellIn_10 (by decide) ?_
  refine z_idiv dX4_cellIn_13 (by decide) ?_
  refine z_isub dX4_cellIn_14 ?_
  refine z_bipush (v := 24) dX4_cellIn_15 (by decide) ?_
  refine z_cSi (c_mod μ _ _ (by decide)) q_X4_mod tw_656 dX4_cellIn_17 rfl rfl (by omega) (Nat.le_of_ble_eq_true rfl) ?_
  refine z_iret hR dX4_cellIn_20 (⟨rfl, by rw [← fmd_mod (by decide)]; rfl⟩)
theorem m_amountOf (μ : zM) (c L lo hi : Nat) (hc : c < 3) (hL : L < 2) (hlo : lo ≤ hi + 1) (hhi : hi < 12) : zCi yX4_amountOf prog_6_method_20_code 8 (some .int) 2 [zR (20, 0, 0), zI (nI c), zI (nI L), zI (nI lo), zI (nI hi)] μ (sm (fun k => rowS (aD (μ (21, 0, 0)) c) L (lo + k)) (hi + 1 - lo)) := by
  refine zCt.of "DyeTankModel" rfl (by decide +kernel) rfl (Nat.le_of_ble_eq_true rfl) (fun K hR => ?_)
  have v20 := zv_20
  have v21 := zv_21
  have v22 := zv_22
  have v23 := zv_23
  have v24 := zv_24
  have v25 := zv_25
  have v26 := zv_26
  have v27 := zv_27
  have v28 := zv_28
  have outer : ∀ (f i : Nat) (x7 : zV), lo + i ≤ hi + 1 → hi + 1 < lo + i + f → Z K 2 "DyeTankModel" prog_6_method_20_code 8 6 [zR (20, 0, 0), zI (nI c), zI (nI L), zI (nI lo), zI (nI hi), zI (sm (fun k => rowS (aD (μ (21, 0, 0)) c) L (lo + k)) i), zI (nI (lo + i)), x7] [] μ := by
    intro f
    induction f with
    | zero => intro i x7 h1 h2; exact absurd ‹_ < _ + 0› (by omega)
    | succ f ih =>
      intro i x7 h1 h2
      refine z_iload dX4_amountOf_6 rfl ?_
      refine z_iload dX4_amountOf_8 rfl ?_
      refine z_icmp_gt (tgt := 58) dX4_amountOf_10 (by decide) (fun hb => ?_) (fun hb => ?_)
      · have hb := nlt hb
        have e : i = hi + 1 - lo := by omega
        subst e
        refine z_iload dX4_amountOf_58 rfl ?_
        refine z_iret hR dX4_amountOf_60 (⟨rfl, rfl⟩)
      · have hb := nnlt hb
        have inner : ∀ (s : Int32) (f2 j : Nat), j ≤ 24 → 24 < j + f2 → s = sm (fun k => rowS (aD (μ (21, 0, 0)) c) L (lo + k)) i + sm (fun j => aD (μ (21, 0, 0)) c (rwi L (lo + i) + j)) j → Z K 2 "DyeTankModel" prog_6_method_20_code 8 16 [zR (20, 0, 0), zI (nI c), zI (nI L), zI (nI lo), zI (nI hi), zI s, zI (nI (lo + i)), zI (nI j)] [] μ := by
          intro s f2
          induction f2 generalizing s with
          | zero => intro j h3 h4; exact absurd h4 (by omega)
          | succ f2 ih2 =>
            intro j h3 h4 hs
            refine z_iload dX4_amountOf_16 rfl ?_
            refine z_bipush (v := 24) dX4_amountOf_18 (by decide) ?_
            refine z_icmp_ge (tgt := 52) dX4_amountOf_20 (by decide) (fun hq => ?_) (fun hq => ?_)
            · have hq := nle (a := 24) hq
              have e : j = 24 := by omega
              subst e
              refine z_incS dX4_amountOf_52 rfl (inc1 _) (by decide) rfl ?_
              refine z_goto (tgt := 6) dX4_amountOf_55 (by decide) ?_
              have := ih (i + 1) (zI (nI 24)) (by omega) (by omega)
              rw [hs]
              exact this
            · have hq := nnle (a := 24) hq
              have hidx : 658 + (576 * c + (rwi L (lo + i) + j)) < 2386 := by unfold rwi; omega
              refine z_iload dX4_amountOf_23 rfl ?_
              refine z_aload_n dX4_amountOf_25 rfl rfl ?_
              refine zg_X4_at dX4_amountOf_26 tw_552 ?_
              refine z_sipush (v := 658) dX4_amountOf_29 (by decide) ?_
              refine z_iload_n dX4_amountOf_32 rfl rfl ?_
              refine z_iload_n dX4_amountOf_33 rfl rfl ?_
              refine z_iload dX4_amountOf_34 rfl ?_
              refine z_iload dX4_amountOf_36 rfl ?_
              refine z_cSi (m_dyeAt μ c L (lo + i) j) q_X4_dyeAt tw_648 dX4_amountOf_38 rfl rfl (by omega) (Nat.le_of_ble_eq_true rfl) ?_
              refine z_iadd dX4_amountOf_41 ?_
              refine z_iald dX4_amountOf_42 (fun _ _ => rfl) (nI_add 658 _) hidx ?_
              refine z_iadd dX4_amountOf_43 ?_
              refine z_istS dX4_amountOf_44 (by decide) rfl ?_
              refine z_incS dX4_amountOf_46 rfl (inc1 _) (by decide) rfl ?_
              refine z_goto (tgt := 16) dX4_amountOf_49 (by decide) ?_
              refine ih2 _ (j + 1) (by omega) (by omega) ?_
              rw [hs, Int32.add_assoc]
              congr 1
              show _ = _ + aD _ _ _
              unfold aD
              rw [show 658 + 576 * c + (rwi L (lo + i) + j) = 658 + (576 * c + (rwi L (lo + i) + j)) by omega]
        refine z_iconst (v := 0) dX4_amountOf_13 (by decide) ?_
        refine z_istS dX4_amountOf_14 (by decide) rfl ?_
        refine inner _ 25 0 (by omega) (by omega) ?_
        rw [sm, Int32.add_zero]
  refine z_ls (ls' := [zR (20, 0, 0), zI (nI c), zI (nI L), zI (nI lo), zI (nI hi), zN, zN, zN]) rfl ?_
  refine z_iconst (v := 0) dX4_amountOf_0 (by decide) ?_
  refine z_istS dX4_amountOf_1 (by decide) rfl ?_
  refine z_iload_n dX4_amountOf_3 rfl rfl ?_
  refine z_istS dX4_amountOf_4 (by decide) rfl ?_
  exact outer (hi + 2) 0 zN (by omega) (by omega)
theorem sm_one (f : Nat → Int32) (r : Nat) : sm (fun k => f (r + k)) (r + 1 - r) = f r := by
  rw [show r + 1 - r = 1 by omega, sm, sm, Int32.zero_add, Nat.add_zero]
theorem sm_z (f : Nat → Int32) {n : Nat} (h : 1 ≤ n) : sm (fun k => f (0 + k)) (n - 1 + 1 - 0) = sm f n := by
  rw [show n - 1 + 1 - 0 = n by omega]
  exact sm_congr n (fun j _ => by rw [Nat.zero_add])
theorem m_allOf (μ : zM) (n : Nat) (hn : μ (21, 0, 0) 0 = nI n) (hn2 : 2 ≤ n) (hn12 : n ≤ 12) (c : Nat) (hc : c < 3) : zCi yX4_allOf prog_6_method_21_code 2 (some .int) 3 [zR (20, 0, 0), zI (nI c)] μ (allA (aD (μ (21, 0, 0)) c) n) := by
  refine zCt.of "DyeTankModel" rfl (by decide +kernel) rfl (Nat.le_of_ble_eq_true rfl) (fun K hR => ?_)
  have v20 := zv_20
  have v21 := zv_21
  have v22 := zv_22
  have v23 := zv_23
  have v24 := zv_24
  have v25 := zv_25
  have v26 := zv_26
  have v27 := zv_27
  have v28 := zv_28
  have e : μ (21, 0, 0) 0 - 1 = nI (n - 1) := by rw [hn]; exact pk_sub (b := 1) (by omega)
  refine z_ls (ls' := [zR (20, 0, 0), zI (nI c)]) rfl ?_
  refine z_aload_n dX4_allOf_0 rfl rfl ?_
  refine z_iload_n dX4_allOf_1 rfl rfl ?_
  refine z_iconst (v := 0) dX4_allOf_2 (by decide) ?_
  refine z_iconst (v := 0) dX4_allOf_3 (by decide) ?_
  refine z_aload_n dX4_allOf_4 rfl rfl ?_
  refine zg_X4_at dX4_allOf_5 tw_552 ?_
  refine z_iconst (v := 0) dX4_allOf_8 (by decide) ?_
  refine z_iald dX4_allOf_9 (fun _ _ => rfl) rfl (i := 0) (by decide) ?_
  refine z_iconst (v := 1) dX4_allOf_10 (by decide) ?_
  refine z_isub dX4_allOf_11 ?_
  refine z_top (e) ?_
  refine z_cVi (m_amountOf μ c 0 0 (n - 1) hc (by decide) (by omega) (by omega)) q_X4_amountOf tw_644 dX4_allOf_12 rfl rfl rfl (by omega) (Nat.le_of_ble_eq_true rfl) ?_
  refine z_top ((sm_z _ (by omega))) ?_
  refine z_aload_n dX4_allOf_15 rfl rfl ?_
  refine z_iload_n dX4_allOf_16 rfl rfl ?_
  refine z_iconst (v := 1) dX4_allOf_17 (by decide) ?_
  refine z_iconst (v := 0) dX4_allOf_18 (by decide) ?_
  refine z_aload_n dX4_allOf_19 rfl rfl ?_
  refine zg_X4_at dX4_allOf_20 tw_552 ?_
  refine z_iconst (v := 0) dX4_allOf_23 (by decide) ?_
  refine z_iald dX4_allOf_24 (fun _ _ => rfl) rfl (i := 0) (by decide) ?_
  refine z_iconst (v := 1) dX4_allOf_25 (by decide) ?_
  refine z_isub dX4_allOf_26 ?_
  refine z_top (e) ?_
  refine z_cVi (m_amountOf μ c 1 0 (n - 1) hc (by decide) (by omega) (by omega)) q_X4_amountOf tw_644 dX4_allOf_27 rfl rfl rfl (by omega) (Nat.le_of_ble_eq_true rfl) ?_
  refine z_top ((sm_z _ (by omega))) ?_
  refine z_iadd dX4_allOf_30 ?_
  refine z_iret hR dX4_allOf_31 (⟨rfl, rfl⟩)
theorem m_isColour (μ : zM) (x : Int32) : zCi yX4_isColour prog_6_method_37_code 1 (some .boolean) 2 [zI x] μ (zb (0 ≤ x ∧ x ≤ 2)) := by
  refine zCt.of "DyeTankModel" rfl (by decide +kernel) rfl (Nat.le_of_ble_eq_true rfl) (fun K hR => ?_)
  refine z_ls (ls' := [zI x]) rfl ?_
  refine z_iload_n dX4_isColour_0 rfl rfl ?_
  refine z_iconst (v := 0) dX4_isColour_1 (by decide) ?_
  refine z_iconst (v := 2) dX4_isColour_2 (by decide) ?_
  refine z_cSi (c_in μ _ _ _) q_X4_in tw_593 dX4_isColour_3 rfl rfl (by omega) (Nat.le_of_ble_eq_true rfl) ?_
  refine z_bret hR dX4_isColour_6 ?_ ⟨rfl, rfl⟩
  unfold zb
  split
  · exact Or.inr rfl
  · exact Or.inl rfl
theorem m_isVelocity (μ : zM) (x : Int32) : zCi yX4_isVelocity prog_6_method_13_code 1 (some .boolean) 2 [zI x] μ (zb (-1500 ≤ x ∧ x ≤ 1500)) := by
  refine zCt.of "DyeTankModel" rfl (by decide +kernel) rfl (Nat.le_of_ble_eq_true rfl) (fun K hR => ?_)
  refine z_ls (ls' := [zI x]) rfl ?_
  refine z_iload_n dX4_isVelocity_0 rfl rfl ?_
  refine z_sipush (v := -1500) dX4_isVelocity_1 (by decide) ?_
  refine z_sipush (v := 1500) dX4_isVelocity_4 (by decide) ?_
  refine z_cSi (c_in μ _ _ _) q_X4_in tw_593 dX4_isVelocity_7 rfl rfl (by omega) (Nat.le_of_ble_eq_true rfl) ?_
  refine z_bret hR dX4_isVelocity_10 ?_ ⟨rfl, rfl⟩
  unfold zb
  split
  · exact Or.inr rfl
  · exact Or.inl rfl
