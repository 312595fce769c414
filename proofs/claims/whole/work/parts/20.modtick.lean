theorem gv_congrA {D A A' : Nat → Int32} {L r tg : Nat} {s : Int32} {m i : Nat} (h1 : A r = A' r) (h2 : A tg = A' tg) : gv D A L r tg s m i = gv D A' L r tg s m i := by
  unfold gv
  refine sm_congr m (fun j _ => ?_)
  unfold jj sec
  rw [h1, h2]
theorem rmv_congrA {D A A' : Nat → Int32} {n L r : Nat} {x : Int32} {i : Nat} (hr : r < n) (_hn : 0 < n) (h : ∀ j, j < n → A j = A' j) : rmv D A n L r x i = rmv D A' n L r x i := by
  unfold rmv
  split
  · rfl
  · cases hg : tgo (inw L x) r n with
    | none => rfl
    | some tg =>
      have htg : tg < n := by
        unfold tgo at hg
        split at hg
        · split at hg
          · cases hg
          · cases hg; omega
        · split at hg
          · cases hg; omega
          · cases hg
      exact gv_congrA (h r hr) (h tg htg)
theorem m_stepRingX (μ : zM) (n : Nat) (hn : μ (21, 0, 0) 0 = nI n) (hn2 : 2 ≤ n) (hn12 : n ≤ 12) (r L : Nat) (x : Int32) (hL : L < 2) (hr : r < n) (hA : ∀ r, r < n → ∃ a, a < 3600 ∧ aA (μ (21, 0, 0)) r = nI a) (D : Nat → Nat → Int32) (a0 : Nat → Int32) (ha0 : μ (21, 0, 0) = rg2 D a0) : zCv yX4_stepRing prog_6_method_25_code 12 (none : Option Jvm.ClassFile.FieldType) 3 [zR (20, 0, 0), zI (nI r), zI (nI L), zI x] μ (fun μ' => zoff [(21, 0, 0)] μ μ' ∧ μ' (21, 0, 0) = rg2 (fun c i => D c i + rmv (fun i => μ (25, 0, 0) (576 * c + i)) (aA (μ (21, 0, 0))) n L r x i) a0) := by
  have same : ∀ (g : Nat → Nat → Int32), (∀ c i, g c i = 0) → μ (21, 0, 0) = rg2 (fun c i => D c i + g c i) a0 := by
    intro g hg
    rw [ha0]
    refine rg2_congr (fun c _ => ?_)
    funext i
    rw [hg c i, Int32.add_zero]
  have keep : ∀ T, (T = if inw L x then nI r - 1 else nI r + 1) → (x = 0 ∨ ¬ (0 ≤ T ∧ T ≤ μ (21, 0, 0) 0 - 1)) → (∀ c i, rmv (fun i => μ (25, 0, 0) (576 * c + i)) (aA (μ (21, 0, 0))) n L r x i = 0) → zCv yX4_stepRing prog_6_method_25_code 12 (none : Option Jvm.ClassFile.FieldType) 3 [zR (20, 0, 0), zI (nI r), zI (nI L), zI x] μ (fun μ' => zoff [(21, 0, 0)] μ μ' ∧ μ' (21, 0, 0) = rg2 (fun c i => D c i + rmv (fun i => μ (25, 0, 0) (576 * c + i)) (aA (μ (21, 0, 0))) n L r x i) a0) := by
    intro T hT h h0
    refine zCt.of "DyeTankModel" rfl (by decide +kernel) rfl (Nat.le_of_ble_eq_true rfl) (fun K hR => ?_)
    have v20 := zv_20
    have v21 := zv_21
    have v22 := zv_22
    have v23 := zv_23
    have v24 := zv_24
    have v25 := zv_25
    have v26 := zv_26
    have v27 := zv_27
    have v28 := zv_28
    refine m_stepRing_head μ r L x T hT hL (fun w T' hT' => ?_)
    subst hT'
    refine z_iload_n dX4_stepRing_45 rfl rfl ?_
    refine z_if_eq (tgt := 58) dX4_stepRing_46 (by decide) (fun h1 => ?_) (fun h1 => ?_)
    · refine z_vret hR dX4_stepRing_58 (⟨rfl, zoff.rf, same _ h0⟩)
    · refine z_aload_n dX4_stepRing_49 rfl rfl ?_
      refine z_iload dX4_stepRing_50 rfl ?_
      refine z_cVi (m_isRing μ _) q_X4_isRing tw_608 dX4_stepRing_52 rfl rfl rfl (by omega) (Nat.le_of_ble_eq_true rfl) ?_
      refine z_bne (tgt := 59) dX4_stepRing_55 (by decide) (fun h2 => ?_) (fun h2 => ?_)
      · exact absurd h2 (h.resolve_left h1)
      · refine z_vret hR dX4_stepRing_58 (⟨rfl, zoff.rf, same _ h0⟩)
  by_cases hx : x = 0
  · exact keep _ rfl (Or.inl hx) (fun c i => by unfold rmv; rw [if_pos hx])
  · cases hg : tgo (inw L x) r n with
    | none =>
      refine keep _ rfl (Or.inr ?_) (fun c i => by unfold rmv; rw [if_neg hx, hg])
      rintro ⟨h1, h2⟩
      rw [hn] at h2
      unfold tgo at hg
      by_cases hw : inw L x = true
      · rw [if_pos hw] at hg h1
        by_cases h0 : r = 0
        · rw [h0] at h1
          exact absurd h1 (by decide)
        · rw [if_neg h0] at hg
          cases hg
      · rw [if_neg hw] at hg h2
        by_cases h0 : r + 1 < n
        · rw [if_pos h0] at hg
          cases hg
        · rw [nI_1, show nI n - 1 = nI (n - 1) from pk_sub (b := 1) (by omega)] at h2
          have := nle h2
          omega
    | some tg =>
      have hk : (nI tg = if inw L x then nI r - 1 else nI r + 1) ∧ tg < n ∧ tg ≠ r := by
        unfold tgo at hg
        by_cases hw : inw L x = true
        · rw [if_pos hw] at hg ⊢
          by_cases h0 : r = 0
          · rw [if_pos h0] at hg
            cases hg
          · rw [if_neg h0] at hg
            cases hg
            exact ⟨(pk_sub (b := 1) (by omega)).symm, by omega, by omega⟩
        · rw [if_neg hw] at hg ⊢
          by_cases h0 : r + 1 < n
          · rw [if_pos h0] at hg
            cases hg
            exact ⟨(nI_1 r).symm, h0, by omega⟩
          · rw [if_neg h0] at hg
            cases hg
      have e : (fun (c i : Nat) => D c i + rmv (fun i => μ (25, 0, 0) (576 * c + i)) (aA (μ (21, 0, 0))) n L r x i) = fun c i => D c i + gv (fun i => μ (25, 0, 0) (576 * c + i)) (aA (μ (21, 0, 0))) L r tg (absI x) 24 i := by
        funext c i
        unfold rmv
        rw [if_neg hx, hg]
      rw [e]
      exact m_stepRing μ n hn hn2 hn12 r L tg x hk.1 hL hr hk.2.1 hk.2.2 hx hA D a0 ha0
theorem m_stepDyes (μ : zM) (n : Nat) (hn : μ (21, 0, 0) 0 = nI n) (hn2 : 2 ≤ n) (hn12 : n ≤ 12) (hA : ∀ r, r < n → ∃ a, a < 3600 ∧ aA (μ (21, 0, 0)) r = nI a) : zCv yX4_stepDyes prog_6_method_26_code 2 (none : Option Jvm.ClassFile.FieldType) 4 [zR (20, 0, 0)] μ (fun μ' => zoff [(21, 0, 0), (25, 0, 0)] μ μ' ∧ μ' (21, 0, 0) = rg2 (fun c => dyf (aD (μ (21, 0, 0)) c) (aA (μ (21, 0, 0))) n (psh (aS (μ (21, 0, 0))) (aP (μ (21, 0, 0))))) (μ (21, 0, 0))) := by
  refine zCt.of "DyeTankModel" rfl (by decide +kernel) rfl (Nat.le_of_ble_eq_true rfl) (fun K hR => ?_)
  have v20 := zv_20
  have v21 := zv_21
  have v22 := zv_22
  have v23 := zv_23
  have v24 := zv_24
  have v25 := zv_25
  have v26 := zv_26
  have v27 := zv_27
  have v28 := zv_28
  generalize hAA : aA (μ (21, 0, 0)) = A at hA ⊢
  generalize hX : psh (aS (μ (21, 0, 0))) (aP (μ (21, 0, 0))) = X
  have loop : ∀ (f r : Nat) (μ' : zM), r ≤ n → n < r + f → zoff [(21, 0, 0), (25, 0, 0)] μ μ' → (∀ c, c < 3 → ∀ i, i < 576 → μ' (25, 0, 0) (576 * c + i) = aD (μ (21, 0, 0)) c i) → μ' (21, 0, 0) = rg2 (fun c i => aD (μ (21, 0, 0)) c i + sm (fun r => rmv (aD (μ (21, 0, 0)) c) A n 1 r (X r) i + rmv (aD (μ (21, 0, 0)) c) A n 0 r (X r) i) r) (μ (21, 0, 0)) → Z K 4 "DyeTankModel" prog_6_method_26_code 2 33 [zR (20, 0, 0), zI (nI r)] [] μ' := by
    intro f
    induction f with
    | zero => intro r μ' h1 h2 h3 h4 h5; exact absurd ‹_ < _ + 0› (by omega)
    | succ f ih =>
      intro r μ' h1 h2 ho hB ha
      have q : ∀ k, k < 658 → μ' (21, 0, 0) k = μ (21, 0, 0) k := fun k hk => by rw [ha]; exact rg2_out hk
      have hn' : μ' (21, 0, 0) 0 = nI n := by rw [q 0 (by omega)]; exact hn
      refine z_iload_n dX4_stepDyes_33 rfl rfl ?_
      refine z_aload_n dX4_stepDyes_34 rfl rfl ?_
      refine zg_X4_at dX4_stepDyes_35 tw_552 ?_
      refine z_iconst (v := 0) dX4_stepDyes_38 (by decide) ?_
      refine z_iald dX4_stepDyes_39 (fun _ _ => rfl) rfl (i := 0) (by decide) ?_
      refine z_top (hn') ?_
      refine z_icmp_ge (tgt := 71) dX4_stepDyes_40 (by decide) (fun hb => ?_) (fun hb => ?_)
      · have hb := nle hb
        have e : r = n := by omega
        subst e
        refine z_vret hR dX4_stepDyes_71 (⟨rfl, ho, by rw [ha, hAA, hX]; rfl⟩)
      · have hb := nnle hb
        have ps : ∀ (μ2 : zM), (∀ k, k < 658 → μ2 (21, 0, 0) k = μ (21, 0, 0) k) → psh (aS (μ2 (21, 0, 0))) (aP (μ2 (21, 0, 0))) r = X r := by
          intro μ2 q2
          rw [← hX]
          unfold psh vel aS aP
          rw [q2 _ (by omega), q2 _ (by omega), q2 _ (by omega)]
        have hA2 : ∀ (μ2 : zM), (∀ k, k < 658 → μ2 (21, 0, 0) k = μ (21, 0, 0) k) → ∀ r, r < 12 → aA (μ2 (21, 0, 0)) r = A r := by
          intro μ2 q2 r hr
          rw [← hAA]
          exact q2 _ (by omega)
        have rm : ∀ (μ2 : zM), (∀ k, k < 658 → μ2 (21, 0, 0) k = μ (21, 0, 0) k) → μ2 (25, 0, 0) = μ' (25, 0, 0) → ∀ c, c < 3 → ∀ L, L < 2 → ∀ i, rmv (fun i => μ2 (25, 0, 0) (576 * c + i)) (aA (μ2 (21, 0, 0))) n L r (X r) i = rmv (aD (μ (21, 0, 0)) c) A n L r (X r) i := by
          intro μ2 q2 e25 c hc L hL i
          rw [e25, rmv_congr (D' := aD (μ (21, 0, 0)) c) hL (by omega) (hB c hc), rmv_congrA hb (by omega) (fun j hj => hA2 μ2 q2 j (by omega))]
        refine z_aload_n dX4_stepDyes_43 rfl rfl ?_
        refine z_iload_n dX4_stepDyes_44 rfl rfl ?_
        refine z_iconst (v := 0) dX4_stepDyes_45 (by decide) ?_
        refine z_aload_n dX4_stepDyes_46 rfl rfl ?_
        refine z_iload_n dX4_stepDyes_47 rfl rfl ?_
        refine z_cVi (m_push _ r (by omega)) q_X4_push tw_676 dX4_stepDyes_48 rfl rfl rfl (by omega) (Nat.le_of_ble_eq_true rfl) ?_
        refine z_top ((ps μ' q)) ?_
        refine z_cVv (m_stepRingX μ' n hn' hn2 hn12 r 0 (X r) (by decide) hb (fun j hj => by rw [hA2 μ' q j (by omega)]; exact hA j hj) _ _ ha) q_X4_stepRing tw_680 dX4_stepDyes_51 rfl rfl rfl (by omega) (Nat.le_of_ble_eq_true rfl) (fun μ1 hh => ?_)
        obtain ⟨o1, a1⟩ := hh
        have q1 : ∀ k, k < 658 → μ1 (21, 0, 0) k = μ (21, 0, 0) k := fun k hk => by rw [a1]; exact rg2_out hk
        have e1 := o1.at (25, 0, 0)
        refine z_aload_n dX4_stepDyes_54 rfl rfl ?_
        refine z_iload_n dX4_stepDyes_55 rfl rfl ?_
        refine z_iconst (v := 1) dX4_stepDyes_56 (by decide) ?_
        refine z_aload_n dX4_stepDyes_57 rfl rfl ?_
        refine z_iload_n dX4_stepDyes_58 rfl rfl ?_
        refine z_cVi (m_push _ r (by omega)) q_X4_push tw_676 dX4_stepDyes_59 rfl rfl rfl (by omega) (Nat.le_of_ble_eq_true rfl) ?_
        refine z_top ((ps μ1 q1)) ?_
        refine z_cVv (m_stepRingX μ1 n (by rw [q1 0 (by omega)]; exact hn) hn2 hn12 r 1 (X r) (by decide) hb (fun j hj => by rw [hA2 μ1 q1 j (by omega)]; exact hA j hj) _ _ a1) q_X4_stepRing tw_680 dX4_stepDyes_62 rfl rfl rfl (by omega) (Nat.le_of_ble_eq_true rfl) (fun μ2 hh => ?_)
        obtain ⟨o2, a2⟩ := hh
        refine z_incS dX4_stepDyes_65 rfl (inc1 _) (by decide) rfl ?_
        refine z_goto (tgt := 33) dX4_stepDyes_68 (by decide) ?_
        refine ih (r + 1) μ2 (by omega) (by omega) (zoff.tr (zoff.tr ho o1 (by simp)) o2 (by simp)) ?_ ?_
        · rw [o2.at (25, 0, 0), e1]
          exact hB
        · rw [a2]
          refine rg2_congr (fun c hc => ?_)
          funext i
          rw [rm μ' q rfl c hc 0 (by decide) i, rm μ1 q1 e1 c hc 1 (by decide) i]
          show _ + sm _ r + _ + _ = _ + (sm _ r + (_ + _))
          rw [Int32.add_assoc, Int32.add_assoc, Int32.add_comm (rmv _ A n 0 r (X r) i)]
  have cp : ∀ (f i : Nat), i ≤ 1728 → 1728 < i + f → Z K 4 "DyeTankModel" prog_6_method_26_code 2 2 [zR (20, 0, 0), zI (nI i)] [] (st μ (25, 0, 0) (fun j => if j < i then μ (21, 0, 0) (658 + j) else μ (25, 0, 0) j)) := by
    intro f
    induction f with
    | zero => intro i h1 h2; exact absurd ‹_ < _ + 0› (by omega)
    | succ f ih =>
      intro i h1 h2
      refine z_iload_n dX4_stepDyes_2 rfl rfl ?_
      refine z_sipush (v := 1728) dX4_stepDyes_3 (by decide) ?_
      refine z_icmp_ge (tgt := 31) dX4_stepDyes_6 (by decide) (fun hb => ?_) (fun hb => ?_)
      · have hb := nle (a := 1728) hb
        have e : i = 1728 := by omega
        subst e
        refine z_iconst (v := 0) dX4_stepDyes_31 (by decide) ?_
        refine z_istS_n dX4_stepDyes_32 rfl (by decide) rfl ?_
        refine loop (n + 1) 0 _ (by omega) (by omega) (zoff.rf.put (by simp) _) ?_ ?_
        · intro c hc j hj
          rw [st_eq, if_pos (by omega)]
          unfold aD
          exact congrArg _ (by omega)
        · rw [st_ne _ _ (by simp)]
          refine (rg2_self _).symm.trans (rg2_congr (fun c _ => ?_))
          funext j
          show _ = _ + sm _ 0
          rw [sm, Int32.add_zero]
      · have hb := nnle (a := 1728) hb
        refine z_aload_n dX4_stepDyes_9 rfl rfl ?_
        refine zg_X4_before dX4_stepDyes_10 tw_556 ?_
        refine z_iload_n dX4_stepDyes_13 rfl rfl ?_
        refine z_aload_n dX4_stepDyes_14 rfl rfl ?_
        refine zg_X4_at dX4_stepDyes_15 tw_552 ?_
        refine z_sipush (v := 658) dX4_stepDyes_18 (by decide) ?_
        refine z_iload_n dX4_stepDyes_21 rfl rfl ?_
        refine z_iadd dX4_stepDyes_22 ?_
        refine z_iald dX4_stepDyes_23 (fun _ _ => rfl) (nI_add 658 i) (show 658 + i < 2386 by omega) ?_
        refine z_top ((show _ = μ (21, 0, 0) (658 + i) by rw [st_ne _ _ (by simp)])) ?_
        refine z_iast dX4_stepDyes_24 (fun _ _ => rfl) rfl (show i < 1728 by omega) ?_
        refine z_incS dX4_stepDyes_25 rfl (inc1 _) (by decide) rfl ?_
        refine z_goto (tgt := 2) dX4_stepDyes_28 (by decide) ?_
        refine z_mu ?_ (ih (i + 1) (by omega) (by omega))
        rw [st_upd]
        congr 1
        exact pre_upd (f := fun j => μ (21, 0, 0) (658 + j)) rfl
  refine z_ls (ls' := [zR (20, 0, 0), zN]) rfl ?_
  refine z_iconst (v := 0) dX4_stepDyes_0 (by decide) ?_
  refine z_istS_n dX4_stepDyes_1 rfl (by decide) rfl ?_
  refine z_mu ?_ (cp 1729 0 (by omega) (by omega))
  rw [pre_0 (f := fun j => μ (21, 0, 0) (658 + j)), st_self]
theorem m_mix (μ : zM) (n : Nat) (hn : μ (21, 0, 0) 0 = nI n) (hn2 : 2 ≤ n) (hn12 : n ≤ 12) : zCv yX4_mix prog_6_method_27_code 6 (none : Option Jvm.ClassFile.FieldType) 2 [zR (20, 0, 0)] μ (fun μ' => zoff [(21, 0, 0)] μ μ' ∧ μ' (21, 0, 0) = rg2 (fun c => mixF (μ (21, 0, 0) 8) (24 * n) (aD (μ (21, 0, 0)) c)) (μ (21, 0, 0))) := by
  refine zCt.of "DyeTankModel" rfl (by decide +kernel) rfl (Nat.le_of_ble_eq_true rfl) (fun K hR => ?_)
  have v20 := zv_20
  have v21 := zv_21
  have v22 := zv_22
  have v23 := zv_23
  have v24 := zv_24
  have v25 := zv_25
  have v26 := zv_26
  have v27 := zv_27
  have v28 := zv_28
  generalize hM : μ (21, 0, 0) 8 = M
  have outer : ∀ (f c : Nat) (x2 x3 x4 x5 : zV) (μ' : zM), zcat x2 = 1 → zcat x3 = 1 → zcat x4 = 1 → c ≤ 3 → 3 < c + f → zoff [(21, 0, 0)] μ μ' → μ' (21, 0, 0) = rg2 (fun c' => if c' < c then mixF M (24 * n) (aD (μ (21, 0, 0)) c') else aD (μ (21, 0, 0)) c') (μ (21, 0, 0)) → Z K 2 "DyeTankModel" prog_6_method_27_code 6 2 [zR (20, 0, 0), zI (nI c), x2, x3, x4, x5] [] μ' := by
    intro f
    induction f with
    | zero => intro c x2 x3 x4 x5 μ' q1 q2 q3 h1 h2 h3 h4; exact absurd ‹_ < _ + 0› (by omega)
    | succ f ih =>
      intro c x2 x3 x4 x5 μ' q2 q3 q4 h1 h2 ho ha
      refine z_iload_n dX4_mix_2 rfl rfl ?_
      refine z_iconst (v := 3) dX4_mix_3 (by decide) ?_
      refine z_icmp_ge (tgt := 117) dX4_mix_4 (by decide) (fun hb => ?_) (fun hb => ?_)
      · have hb := nle (a := 3) hb
        have e : c = 3 := by omega
        subst e
        refine z_vret hR dX4_mix_117 (⟨rfl, ho, ?_⟩)
        rw [ha]
        exact rg2_congr (fun c hc => by rw [hM]; exact if_pos hc)
      · have hb := nnle (a := 3) hb
        have inner : ∀ (f2 k : Nat) (x3 x4 x5 : zV) (μ' : zM), zcat x3 = 1 → zcat x4 = 1 → k ≤ 24 * n → 24 * n < k + f2 → zoff [(21, 0, 0)] μ μ' → μ' (21, 0, 0) = rg2 (fun c' => if c' < c then mixF M (24 * n) (aD (μ (21, 0, 0)) c') else if c' = c then mixF M k (aD (μ (21, 0, 0)) c) else aD (μ (21, 0, 0)) c') (μ (21, 0, 0)) → Z K 2 "DyeTankModel" prog_6_method_27_code 6 9 [zR (20, 0, 0), zI (nI c), zI (nI k), x3, x4, x5] [] μ' := by
          intro f2
          induction f2 with
          | zero => intro k x3 x4 x5 μ' _ _ h5 h6; exact absurd h6 (by omega)
          | succ f2 ih2 =>
            intro k x3 x4 x5 μ' q3 q4 h5 h6 ho ha
            have q : ∀ k, k < 658 → μ' (21, 0, 0) k = μ (21, 0, 0) k := fun k hk => by rw [ha]; exact rg2_out hk
            refine z_iload_n dX4_mix_9 rfl rfl ?_
            refine z_bipush (v := 24) dX4_mix_10 (by decide) ?_
            refine z_aload_n dX4_mix_12 rfl rfl ?_
            refine zg_X4_at dX4_mix_13 tw_552 ?_
            refine z_iconst (v := 0) dX4_mix_16 (by decide) ?_
            refine z_iald dX4_mix_17 (fun _ _ => rfl) rfl (i := 0) (by decide) ?_
            refine z_top ((show _ = nI n by rw [q 0 (by omega)]; exact hn)) ?_
            refine z_imul dX4_mix_18 ?_
            refine z_top ((show nI 24 * nI n = nI (24 * n) from pk_mul _ _)) ?_
            refine z_icmp_ge (tgt := 111) dX4_mix_19 (by decide) (fun hq => ?_) (fun hq => ?_)
            · have hq := nle hq
              have e : k = 24 * n := by omega
              subst e
              refine z_incS dX4_mix_111 rfl (inc1 _) (by decide) rfl ?_
              refine z_goto (tgt := 2) dX4_mix_114 (by decide) ?_
              refine ih (c + 1) _ _ _ _ μ' rfl q3 q4 (by omega) (by omega) ho ?_
              rw [ha]
              refine rg2_congr (fun c' _ => ?_)
              by_cases e1 : c' < c
              · rw [if_pos e1, if_pos (by omega)]
              · rw [if_neg e1]
                by_cases e2 : c' = c
                · rw [if_pos e2, if_pos (by omega), e2]
                · rw [if_neg e2, if_neg (by omega)]
            · have hq := nnle hq
              have k1 : rwi 0 0 + 0 + k < 576 := by unfold rwi; omega
              have k2 : rwi 1 0 + 0 + k < 576 := by unfold rwi; omega
              have ek1 : rwi 0 0 + 0 + k = k := by unfold rwi; omega
              have ek2 : rwi 1 0 + 0 + k = 288 + k := by unfold rwi; omega
              have t1 : 658 + (576 * c + (rwi 0 0 + 0)) + k = 658 + (576 * c + k) := by unfold rwi; omega
              have t2 : 658 + (576 * c + (rwi 1 0 + 0)) + k = 658 + (576 * c + (288 + k)) := by unfold rwi; omega
              have v1 : μ' (21, 0, 0) (658 + (576 * c + k)) = aD (μ (21, 0, 0)) c k := by
                rw [ha, rg2_at hb (by omega), if_neg (by omega), if_pos rfl]
                unfold mixF
                rw [if_neg (by omega), if_neg (by omega)]
              have v2 : μ' (21, 0, 0) (658 + (576 * c + (288 + k))) = aD (μ (21, 0, 0)) c (288 + k) := by
                rw [ha, rg2_at hb (by omega), if_neg (by omega), if_pos rfl]
                unfold mixF
                rw [if_neg (by omega), if_neg (by omega)]
              refine z_sipush (v := 658) dX4_mix_22 (by decide) ?_
              refine z_iload_n dX4_mix_25 rfl rfl ?_
              refine z_iconst (v := 0) dX4_mix_26 (by decide) ?_
              refine z_iconst (v := 0) dX4_mix_27 (by decide) ?_
              refine z_iconst (v := 0) dX4_mix_28 (by decide) ?_
              refine z_cSi (m_dyeAt _ c 0 0 0) q_X4_dyeAt tw_648 dX4_mix_29 rfl rfl (by omega) (Nat.le_of_ble_eq_true rfl) ?_
              refine z_iadd dX4_mix_32 ?_
              refine z_top ((nI_add 658 _)) ?_
              refine z_iload_n dX4_mix_33 rfl rfl ?_
              refine z_iadd dX4_mix_34 ?_
              refine z_top ((show nI (658 + (576 * c + (rwi 0 0 + 0))) + nI k = nI (658 + (576 * c + k)) by rw [nI_add, t1])) ?_
              refine z_istS_n dX4_mix_35 rfl (by decide) rfl ?_
              refine z_sipush (v := 658) dX4_mix_36 (by decide) ?_
              refine z_iload_n dX4_mix_39 rfl rfl ?_
              refine z_iconst (v := 1) dX4_mix_40 (by decide) ?_
              refine z_iconst (v := 0) dX4_mix_41 (by decide) ?_
              refine z_iconst (v := 0) dX4_mix_42 (by decide) ?_
              refine z_cSi (m_dyeAt _ c 1 0 0) q_X4_dyeAt tw_648 dX4_mix_43 rfl rfl (by omega) (Nat.le_of_ble_eq_true rfl) ?_
              refine z_iadd dX4_mix_46 ?_
              refine z_top ((nI_add 658 _)) ?_
              refine z_iload_n dX4_mix_47 rfl rfl ?_
              refine z_iadd dX4_mix_48 ?_
              refine z_top ((show nI (658 + (576 * c + (rwi 1 0 + 0))) + nI k = nI (658 + (576 * c + (288 + k))) by rw [nI_add, t2])) ?_
              refine z_istS dX4_mix_49 (by decide) rfl ?_
              refine z_aload_n dX4_mix_51 rfl rfl ?_
              refine zg_X4_at dX4_mix_52 tw_552 ?_
              refine z_iload_n dX4_mix_55 rfl rfl ?_
              refine z_iald dX4_mix_56 (fun _ _ => rfl) rfl (show 658 + (576 * c + k) < 2386 by omega) ?_
              refine z_aload_n dX4_mix_57 rfl rfl ?_
              refine zg_X4_at dX4_mix_58 tw_552 ?_
              refine z_iload dX4_mix_61 rfl ?_
              refine z_iald dX4_mix_63 (fun _ _ => rfl) rfl (show 658 + (576 * c + (288 + k)) < 2386 by omega) ?_
              refine z_isub dX4_mix_64 ?_
              refine z_i2l dX4_mix_65 ?_
              refine z_aload_n dX4_mix_66 rfl rfl ?_
              refine zg_X4_at dX4_mix_67 tw_552 ?_
              refine z_bipush (v := 8) dX4_mix_70 (by decide) ?_
              refine z_iald dX4_mix_72 (fun _ _ => rfl) rfl (i := 8) (by decide) ?_
              refine z_i2l dX4_mix_73 ?_
              refine z_lmul dX4_mix_74 ?_
              refine z_ldc2 (v := 2000) dX4_mix_75 tw_689 ?_
              refine z_ldiv dX4_mix_78 (by decide) ?_
              refine z_l2i dX4_mix_79 ?_
              refine z_top ((show _ = mxb M (aD (μ (21, 0, 0)) c k) (aD (μ (21, 0, 0)) c (288 + k)) by rw [v1, v2, q 8 (by omega), hM]; rfl)) ?_
              refine z_istS dX4_mix_80 (by decide) rfl ?_
              refine z_aload_n dX4_mix_82 rfl rfl ?_
              refine zg_X4_at dX4_mix_83 tw_552 ?_
              refine z_iload_n dX4_mix_86 rfl rfl ?_
              refine z_dup2 dX4_mix_87 rfl rfl ?_
              refine z_iald dX4_mix_88 (fun _ _ => rfl) rfl (show 658 + (576 * c + k) < 2386 by omega) ?_
              refine z_iload dX4_mix_89 rfl ?_
              refine z_isub dX4_mix_91 ?_
              refine z_iast dX4_mix_92 (fun _ _ => rfl) rfl (show 658 + (576 * c + k) < 2386 by omega) ?_
              refine z_aload_n dX4_mix_93 rfl rfl ?_
              refine zg_X4_at dX4_mix_94 tw_552 ?_
              refine z_iload dX4_mix_97 rfl ?_
              refine z_dup2 dX4_mix_99 rfl rfl ?_
              refine z_iald dX4_mix_100 (fun _ _ => rfl) rfl (show 658 + (576 * c + (288 + k)) < 2386 by omega) ?_
              refine z_iload dX4_mix_101 rfl ?_
              refine z_iadd dX4_mix_103 ?_
              refine z_iast dX4_mix_104 (fun _ _ => rfl) rfl (show 658 + (576 * c + (288 + k)) < 2386 by omega) ?_
              refine z_incS dX4_mix_105 rfl (inc1 _) (by decide) rfl ?_
              refine z_goto (tgt := 9) dX4_mix_108 (by decide) ?_
              refine ih2 (k + 1) _ _ _ _ rfl rfl (by omega) (by omega) ((ho.put (by simp) _).put (by simp) _) ?_
              rw [st_eq, st_eq, ha, rg2_at hb (by omega), rg2_upd hb (by omega), rg2_at hb (by omega), rg2_upd hb (by omega), upc_eq, upc_upc, if_neg (by omega), if_pos rfl, mixF_s _ _ _ (by omega)]
              refine rg2_congr (fun c' _ => ?_)
              unfold upc
              by_cases e1 : c' = c
              · rw [if_pos e1, if_neg (by omega), if_pos e1]
              · rw [if_neg e1, if_neg e1]
                show (if c' < c then _ else _) = _
                by_cases e2 : c' < c
                · rw [if_pos e2, if_pos e2]
                · rw [if_neg e2, if_neg e2, if_neg e1]
        refine z_iconst (v := 0) dX4_mix_7 (by decide) ?_
        refine z_istS_n dX4_mix_8 rfl (by decide) rfl ?_
        refine inner (24 * n + 1) 0 x3 x4 x5 μ' q3 q4 (by omega) (by omega) ho ?_
        rw [ha]
        refine rg2_congr (fun c' _ => ?_)
        by_cases e1 : c' < c
        · rw [if_pos e1, if_pos e1]
        · rw [if_neg e1, if_neg e1]
          by_cases e2 : c' = c
          · rw [if_pos e2, mixF_0, e2]
          · rw [if_neg e2]
  refine z_ls (ls' := [zR (20, 0, 0), zN, zN, zN, zN, zN]) rfl ?_
  refine z_iconst (v := 0) dX4_mix_0 (by decide) ?_
  refine z_istS_n dX4_mix_1 rfl (by decide) rfl ?_
  refine outer 4 0 zN zN zN zN μ rfl rfl rfl (by omega) (by omega) zoff.rf ?_
  refine (rg2_self _).symm.trans (rg2_congr (fun c _ => ?_))
  rw [if_neg (by omega)]
