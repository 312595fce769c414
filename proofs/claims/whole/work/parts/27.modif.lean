/-! the reference's forecasts -/
def settB (a : Nat → Int32) (n : Nat) (b : Int32) : Bool := decide (∀ r, r < n → (-b ≤ vel (aP a) r - aS a 4 ∧ vel (aP a) r - aS a 4 ≤ b))
def partB (a : Nat → Int32) (n c r : Nat) (s : Int32) : Bool := decide (s.toInt64 * (allA (aD a c) n).toInt64 ≤ 1000 * (ringS (aD a c) r).toInt64)
def farI (x y : Int32) : Int32 := if 1800 < fmd (x - y) 3600 then 3600 - fmd (x - y) 3600 else fmd (x - y) 3600
def nearB (a : Nat → Int32) (i j : Nat) (b : Int32) : Bool := decide (a (34 + 104 * i) / 1000 = a (34 + 104 * j) / 1000 ∧ farI (a (34 + 104 * i + 1)) (a (34 + 104 * j + 1)) ≤ b)
theorem m_isSettled (μ : zM) (n : Nat) (hn : μ (21, 0, 0) 0 = nI n) (hn12 : n ≤ 12) (b : Int32) : zCi yX4_isSettled prog_6_method_46_code 4 (some .boolean) 3 [zR (20, 0, 0), zI b] μ (zb (settB (μ (21, 0, 0)) n b = true)) := by
  refine zCt.of "DyeTankModel" rfl (by decide +kernel) rfl (Nat.le_of_ble_eq_true rfl) (fun K hR => ?_)
  have v20 := zv_20
  have v21 := zv_21
  have v22 := zv_22
  have v23 := zv_23
  have v24 := zv_24
  have v25 := zv_25
  have v26 := zv_26
  have v27 := zv_27
  have v28 := zv_28
  have loop : ∀ (f i : Nat), i ≤ n → n < i + f → Z K 3 "DyeTankModel" prog_6_method_46_code 4 4 [zR (20, 0, 0), zI b, zI (zb (settB (μ (21, 0, 0)) i b = true)), zI (nI i)] [] μ := by
    intro f
    induction f with
    | zero => intro i h1 h2; exact absurd ‹_ < _ + 0› (by omega)
    | succ f ih =>
      intro i h1 h2
      have step : (settB (μ (21, 0, 0)) (i + 1) b = true) ↔ (settB (μ (21, 0, 0)) i b = true) ∧ (-b ≤ vel (aP (μ (21, 0, 0))) i - aS (μ (21, 0, 0)) 4 ∧ vel (aP (μ (21, 0, 0))) i - aS (μ (21, 0, 0)) 4 ≤ b) := by
        unfold settB
        rw [decide_eq_true_iff, decide_eq_true_iff]
        constructor
        · intro h
          exact ⟨fun r hr => h r (by omega), h i (by omega)⟩
        · intro ⟨h, h'⟩ r hr
          by_cases e : r = i
          · rw [e]; exact h'
          · exact h r (by omega)
      refine z_iload_n dX4_isSettled_4 rfl rfl ?_
      refine z_aload_n dX4_isSettled_5 rfl rfl ?_
      refine zg_X4_at dX4_isSettled_6 tw_552 ?_
      refine z_iconst (v := 0) dX4_isSettled_9 (by decide) ?_
      refine z_iald dX4_isSettled_10 (fun _ _ => rfl) rfl (i := 0) (by decide) ?_
      refine z_top ((show _ = nI n from hn)) ?_
      refine z_icmp_ge (tgt := 52) dX4_isSettled_11 (by decide) (fun hb => ?_) (fun hb => ?_)
      · have hb := nle hb
        have e : i = n := by omega
        subst e
        refine z_iload_n dX4_isSettled_52 rfl rfl ?_
        refine z_bret hR dX4_isSettled_53 zb_ok ⟨rfl, rfl⟩
      · have hb := nnle hb
        refine z_iload_n dX4_isSettled_14 rfl rfl ?_
        refine z_beq (tgt := 44) dX4_isSettled_15 (by decide) (fun hs => ?_) (fun hs => ?_)
        · refine z_iconst (v := 0) dX4_isSettled_44 (by decide) ?_
          refine z_istS_n dX4_isSettled_45 rfl (by decide) rfl ?_
          refine z_incS dX4_isSettled_46 rfl (inc1 _) (by decide) rfl ?_
          refine z_goto (tgt := 4) dX4_isSettled_49 (by decide) ?_
          refine z_ls ?_ (ih (i + 1) (by omega) (by omega))
          rw [zb_f (fun q => hs (step.mp q).1)]
          rfl
        · refine z_aload_n dX4_isSettled_18 rfl rfl ?_
          refine z_iload_n dX4_isSettled_19 rfl rfl ?_
          refine z_cVi (m_velocity μ i (by omega)) q_X4_velocity tw_616 dX4_isSettled_20 rfl rfl rfl (by omega) (Nat.le_of_ble_eq_true rfl) ?_
          refine z_aload_n dX4_isSettled_23 rfl rfl ?_
          refine zg_X4_at dX4_isSettled_24 tw_552 ?_
          refine z_bipush (v := 6) dX4_isSettled_27 (by decide) ?_
          refine z_iald dX4_isSettled_29 (fun _ _ => rfl) rfl (i := 6) (by decide) ?_
          refine z_isub dX4_isSettled_30 ?_
          refine z_iload_n dX4_isSettled_31 rfl rfl ?_
          refine z_ineg dX4_isSettled_32 ?_
          refine z_iload_n dX4_isSettled_33 rfl rfl ?_
          refine z_cSi (c_in μ _ _ _) q_X4_in tw_593 dX4_isSettled_34 rfl rfl (by omega) (Nat.le_of_ble_eq_true rfl) ?_
          refine z_beq (tgt := 44) dX4_isSettled_37 (by decide) (fun hv => ?_) (fun hv => ?_)
          · refine z_iconst (v := 0) dX4_isSettled_44 (by decide) ?_
            refine z_istS_n dX4_isSettled_45 rfl (by decide) rfl ?_
            refine z_incS dX4_isSettled_46 rfl (inc1 _) (by decide) rfl ?_
            refine z_goto (tgt := 4) dX4_isSettled_49 (by decide) ?_
            refine z_ls ?_ (ih (i + 1) (by omega) (by omega))
            rw [zb_f (fun q => hv (step.mp q).2)]
            rfl
          · refine z_iconst (v := 1) dX4_isSettled_40 (by decide) ?_
            refine z_goto (tgt := 45) dX4_isSettled_41 (by decide) ?_
            refine z_istS_n dX4_isSettled_45 rfl (by decide) rfl ?_
            refine z_incS dX4_isSettled_46 rfl (inc1 _) (by decide) rfl ?_
            refine z_goto (tgt := 4) dX4_isSettled_49 (by decide) ?_
            refine z_ls ?_ (ih (i + 1) (by omega) (by omega))
            rw [zb_t (step.mpr ⟨hs, hv⟩)]
            rfl
  refine z_ls (ls' := [zR (20, 0, 0), zI b, zN, zN]) rfl ?_
  refine z_iconst (v := 1) dX4_isSettled_0 (by decide) ?_
  refine z_istS_n dX4_isSettled_1 rfl (by decide) rfl ?_
  refine z_iconst (v := 0) dX4_isSettled_2 (by decide) ?_
  refine z_istS_n dX4_isSettled_3 rfl (by decide) rfl ?_
  refine z_ls ?_ (loop (n + 1) 0 (by omega) (by omega))
  rw [zb_t (show settB (μ (21, 0, 0)) 0 b = true from decide_eq_true (fun r hr => absurd hr (by omega)))]
  rfl
theorem lcmp_ge2 (x y : Int64) : 0 ≤ lg_cmp x y ↔ y ≤ x := by
  unfold lg_cmp
  by_cases h : x > y
  · rw [if_pos h]
    exact ⟨fun _ => Int64.le_of_lt h, fun _ => by decide⟩
  · rw [if_neg h]
    by_cases h2 : x = y
    · rw [if_pos h2, h2]
      exact ⟨fun _ => Int64.le_refl y, fun _ => by decide⟩
    · rw [if_neg h2]
      exact ⟨fun q => absurd q (by decide), fun q => absurd (Int64.le_antisymm (Int64.not_lt.mp h) q) h2⟩
theorem m_hasPart (μ : zM) (n : Nat) (hn : μ (21, 0, 0) 0 = nI n) (hn2 : 2 ≤ n) (hn12 : n ≤ 12) (c r : Nat) (hc : c < 3) (hr : r < n) (s : Int32) : zCi yX4_hasPart prog_6_method_47_code 6 (some .boolean) 4 [zR (20, 0, 0), zI (nI c), zI (nI r), zI s] μ (zb (partB (μ (21, 0, 0)) n c r s = true)) := by
  refine zCt.of "DyeTankModel" rfl (by decide +kernel) rfl (Nat.le_of_ble_eq_true rfl) (fun K hR => ?_)
  have v20 := zv_20
  have v21 := zv_21
  have v22 := zv_22
  have v23 := zv_23
  have v24 := zv_24
  have v25 := zv_25
  have v26 := zv_26
  have v27 := zv_27
  have v28 := zv_28
  refine z_ls (ls' := [zR (20, 0, 0), zI (nI c), zI (nI r), zI s, zN, zN]) rfl ?_
  refine z_aload_n dX4_hasPart_0 rfl rfl ?_
  refine z_iload_n dX4_hasPart_1 rfl rfl ?_
  refine z_iconst (v := 0) dX4_hasPart_2 (by decide) ?_
  refine z_iload_n dX4_hasPart_3 rfl rfl ?_
  refine z_iload_n dX4_hasPart_4 rfl rfl ?_
  refine z_cVi (m_amountOf μ c 0 r r hc (by decide) (by omega) (by omega)) q_X4_amountOf tw_644 dX4_hasPart_5 rfl rfl rfl (by omega) (Nat.le_of_ble_eq_true rfl) ?_
  refine z_top ((sm_one _ r)) ?_
  refine z_aload_n dX4_hasPart_8 rfl rfl ?_
  refine z_iload_n dX4_hasPart_9 rfl rfl ?_
  refine z_iconst (v := 1) dX4_hasPart_10 (by decide) ?_
  refine z_iload_n dX4_hasPart_11 rfl rfl ?_
  refine z_iload_n dX4_hasPart_12 rfl rfl ?_
  refine z_cVi (m_amountOf μ c 1 r r hc (by decide) (by omega) (by omega)) q_X4_amountOf tw_644 dX4_hasPart_13 rfl rfl rfl (by omega) (Nat.le_of_ble_eq_true rfl) ?_
  refine z_top ((sm_one _ r)) ?_
  refine z_iadd dX4_hasPart_16 ?_
  refine z_i2l dX4_hasPart_17 ?_
  refine z_lstS dX4_hasPart_18 (by decide) rfl ?_
  refine z_ldc2 (v := 1000) dX4_hasPart_20 tw_684 ?_
  refine z_lload dX4_hasPart_23 rfl ?_
  refine z_lmul dX4_hasPart_25 ?_
  refine z_iload_n dX4_hasPart_26 rfl rfl ?_
  refine z_i2l dX4_hasPart_27 ?_
  refine z_aload_n dX4_hasPart_28 rfl rfl ?_
  refine z_iload_n dX4_hasPart_29 rfl rfl ?_
  refine z_cVi (m_allOf μ n hn hn2 hn12 c hc) q_X4_allOf tw_640 dX4_hasPart_30 rfl rfl rfl (by omega) (Nat.le_of_ble_eq_true rfl) ?_
  refine z_i2l dX4_hasPart_33 ?_
  refine z_lmul dX4_hasPart_34 ?_
  refine z_lcmp dX4_hasPart_35 ?_
  refine z_if_lt (tgt := 43) dX4_hasPart_36 (by decide) (fun h => ?_) (fun h => ?_)
  · refine z_iconst (v := 0) dX4_hasPart_43 (by decide) ?_
    refine z_bret hR dX4_hasPart_44 (Or.inl rfl) ⟨rfl, congrArg zI (zb_f ?_).symm⟩
    intro q
    unfold partB at q
    rw [decide_eq_true_iff] at q
    exact absurd ((lcmp_ge2 _ _).mpr q) (Int32.not_le.mpr h)
  · refine z_iconst (v := 1) dX4_hasPart_39 (by decide) ?_
    refine z_goto (tgt := 44) dX4_hasPart_40 (by decide) ?_
    refine z_bret hR dX4_hasPart_44 (Or.inr rfl) ⟨rfl, congrArg zI (zb_t ?_).symm⟩
    unfold partB
    rw [decide_eq_true_iff]
    exact (lcmp_ge2 _ _).mp (Int32.not_lt.mp h)
theorem m_areNear (μ : zM) (i j : Nat) (hi : i < 6) (hj : j < 6) (b : Int32) : zCi yX4_areNear prog_6_method_48_code 7 (some .boolean) 3 [zR (20, 0, 0), zI (nI i), zI (nI j), zI b] μ (zb (nearB (μ (21, 0, 0)) i j b = true)) := by
  refine zCt.of "DyeTankModel" rfl (by decide +kernel) rfl (Nat.le_of_ble_eq_true rfl) (fun K hR => ?_)
  have v20 := zv_20
  have v21 := zv_21
  have v22 := zv_22
  have v23 := zv_23
  have v24 := zv_24
  have v25 := zv_25
  have v26 := zv_26
  have v27 := zv_27
  have v28 := zv_28
  have close : ∀ (m : Int32), m = farI (μ (21, 0, 0) (34 + 104 * i + 1)) (μ (21, 0, 0) (34 + 104 * j + 1)) → Z K 3 "DyeTankModel" prog_6_method_48_code 7 66 [zR (20, 0, 0), zI (nI i), zI (nI j), zI b, zI (nI (34 + 104 * i)), zI (nI (34 + 104 * j)), zI m] [] μ := by
    intro m em
    refine z_aload_n dX4_areNear_66 rfl rfl ?_
    refine zg_X4_at dX4_areNear_67 tw_552 ?_
    refine z_iload dX4_areNear_70 rfl ?_
    refine z_iconst (v := 0) dX4_areNear_72 (by decide) ?_
    refine z_iadd dX4_areNear_73 ?_
    refine z_iald dX4_areNear_74 (fun _ _ => rfl) (nI_add (34 + 104 * i) 0) (show 34 + 104 * i + 0 < 2386 by omega) ?_
    refine z_sipush (v := 1000) dX4_areNear_75 (by decide) ?_
    refine z_idiv dX4_areNear_78 (by decide) ?_
    refine z_aload_n dX4_areNear_79 rfl rfl ?_
    refine zg_X4_at dX4_areNear_80 tw_552 ?_
    refine z_iload dX4_areNear_83 rfl ?_
    refine z_iconst (v := 0) dX4_areNear_85 (by decide) ?_
    refine z_iadd dX4_areNear_86 ?_
    refine z_iald dX4_areNear_87 (fun _ _ => rfl) (nI_add (34 + 104 * j) 0) (show 34 + 104 * j + 0 < 2386 by omega) ?_
    refine z_sipush (v := 1000) dX4_areNear_88 (by decide) ?_
    refine z_idiv dX4_areNear_91 (by decide) ?_
    refine z_icmp_ne (tgt := 105) dX4_areNear_92 (by decide) (fun h1 => ?_) (fun h1 => ?_)
    · refine z_iconst (v := 0) dX4_areNear_105 (by decide) ?_
      refine z_bret hR dX4_areNear_106 (Or.inl rfl) ⟨rfl, congrArg zI (zb_f ?_).symm⟩
      intro q
      unfold nearB at q
      rw [decide_eq_true_iff] at q
      exact h1 q.1
    · refine z_iload dX4_areNear_95 rfl ?_
      refine z_iload_n dX4_areNear_97 rfl rfl ?_
      refine z_icmp_gt (tgt := 105) dX4_areNear_98 (by decide) (fun h2 => ?_) (fun h2 => ?_)
      · refine z_iconst (v := 0) dX4_areNear_105 (by decide) ?_
        refine z_bret hR dX4_areNear_106 (Or.inl rfl) ⟨rfl, congrArg zI (zb_f ?_).symm⟩
        intro q
        unfold nearB at q
        rw [decide_eq_true_iff, ← em] at q
        exact absurd q.2 (Int32.not_le.mpr h2)
      · refine z_iconst (v := 1) dX4_areNear_101 (by decide) ?_
        refine z_goto (tgt := 106) dX4_areNear_102 (by decide) ?_
        refine z_bret hR dX4_areNear_106 (Or.inr rfl) ⟨rfl, congrArg zI (zb_t ?_).symm⟩
        unfold nearB
        rw [decide_eq_true_iff, ← em]
        exact ⟨h1, Int32.not_lt.mp h2⟩
  refine z_ls (ls' := [zR (20, 0, 0), zI (nI i), zI (nI j), zI b, zN, zN, zN]) rfl ?_
  refine z_bipush (v := 34) dX4_areNear_0 (by decide) ?_
  refine z_bipush (v := 104) dX4_areNear_2 (by decide) ?_
  refine z_iload_n dX4_areNear_4 rfl rfl ?_
  refine z_imul dX4_areNear_5 ?_
  refine z_iadd dX4_areNear_6 ?_
  refine z_top ((show nI 34 + nI 104 * nI i = nI (34 + 104 * i) by rw [pk_mul, nI_add])) ?_
  refine z_istS dX4_areNear_7 (by decide) rfl ?_
  refine z_bipush (v := 34) dX4_areNear_9 (by decide) ?_
  refine z_bipush (v := 104) dX4_areNear_11 (by decide) ?_
  refine z_iload_n dX4_areNear_13 rfl rfl ?_
  refine z_imul dX4_areNear_14 ?_
  refine z_iadd dX4_areNear_15 ?_
  refine z_top ((show nI 34 + nI 104 * nI j = nI (34 + 104 * j) by rw [pk_mul, nI_add])) ?_
  refine z_istS dX4_areNear_16 (by decide) rfl ?_
  refine z_aload_n dX4_areNear_18 rfl rfl ?_
  refine zg_X4_at dX4_areNear_19 tw_552 ?_
  refine z_iload dX4_areNear_22 rfl ?_
  refine z_iconst (v := 1) dX4_areNear_24 (by decide) ?_
  refine z_iadd dX4_areNear_25 ?_
  refine z_iald dX4_areNear_26 (fun _ _ => rfl) (nI_add (34 + 104 * i) 1) (show 34 + 104 * i + 1 < 2386 by omega) ?_
  refine z_aload_n dX4_areNear_27 rfl rfl ?_
  refine zg_X4_at dX4_areNear_28 tw_552 ?_
  refine z_iload dX4_areNear_31 rfl ?_
  refine z_iconst (v := 1) dX4_areNear_33 (by decide) ?_
  refine z_iadd dX4_areNear_34 ?_
  refine z_iald dX4_areNear_35 (fun _ _ => rfl) (nI_add (34 + 104 * j) 1) (show 34 + 104 * j + 1 < 2386 by omega) ?_
  refine z_isub dX4_areNear_36 ?_
  refine z_sipush (v := 3600) dX4_areNear_37 (by decide) ?_
  refine z_cSi (c_mod _ _ _ (by decide)) q_X4_mod tw_656 dX4_areNear_40 rfl rfl (by omega) (Nat.le_of_ble_eq_true rfl) ?_
  refine z_top ((fmd_mod (by decide)).symm) ?_
  refine z_istS dX4_areNear_43 (by decide) rfl ?_
  refine z_iload dX4_areNear_45 rfl ?_
  refine z_sipush (v := 1800) dX4_areNear_47 (by decide) ?_
  refine z_icmp_le (tgt := 62) dX4_areNear_50 (by decide) (fun h => ?_) (fun h => ?_)
  · refine z_iload dX4_areNear_62 rfl ?_
    refine z_istS dX4_areNear_64 (by decide) rfl ?_
    exact close _ (by unfold farI; rw [if_neg (Int32.not_lt.mpr h)])
  · refine z_sipush (v := 3600) dX4_areNear_53 (by decide) ?_
    refine z_iload dX4_areNear_56 rfl ?_
    refine z_isub dX4_areNear_58 ?_
    refine z_goto (tgt := 64) dX4_areNear_59 (by decide) ?_
    refine z_istS dX4_areNear_64 (by decide) rfl ?_
    exact close _ (by unfold farI; rw [if_pos (Int32.not_le.mp h)])
