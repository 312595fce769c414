/-! forecasts of the component: only those steps that a question needs -/
def RA (μ : zM) (t : Nat) (a : Nat → Int32) : Prop := μ (5, t, 0) 0 = a 0 ∧ (∀ j, j < 7 → μ (6, t, 0) j = aS a j) ∧ (∀ r, r < 12 → μ (7, t, 0) r = aP a r) ∧ (∀ r, r < 12 → μ (8, t, 0) r = aA a r)
def RD (μ : zM) (t c : Nat) (a : Nat → Int32) : Prop := ∀ i, i < 576 → μ (11, t, c) i = aD a c i
theorem RA_turn {μ μ' : zM} {t : Nat} {a : Nat → Int32} (hB : IB a) (h : RA μ t a) (ho : zoff [(7, t, 0), (8, t, 0), (16, t, 0), (17, t, 0)] μ μ') (h7 : μ' (7, t, 0) = mom (μ (6, t, 0)) (μ (7, t, 0)) (rN a)) (h8 : μ' (8, t, 0) = ang (μ (6, t, 0)) (μ (7, t, 0)) (μ (8, t, 0)) (rN a)) (h17 : ∀ j, j < rN a → μ' (17, t, 0) j = psh (μ (6, t, 0)) (mom (μ (6, t, 0)) (μ (7, t, 0)) (rN a)) j) : RA μ' t (tickF a) ∧ (∀ j, j < rN a → μ' (17, t, 0) j = psh (aS a) (mom (aS a) (aP a) (rN a)) j) ∧ (∀ j, j < 12 → μ' (8, t, 0) j = ang (aS a) (aP a) (aA a) (rN a) j) := by
  obtain ⟨g0, gS, gP, gA⟩ := h
  have hn12 := hB.2.2.1
  refine ⟨⟨?_, fun j hj => ?_, fun r hr => ?_, fun r hr => ?_⟩, fun j hj => ?_, fun j hj => ?_⟩
  · rw [ho.at (5, t, 0) (by simp), tick_0]; exact g0
  · rw [ho.at (6, t, 0) (by simp), gS j hj, tick_S hj]
  · rw [h7, tick_P hr]; exact mom_congr gS gP hn12 hr
  · rw [h8, tick_A hr]; exact ang_congr gS gP gA hn12 hr
  · rw [h17 j hj]
    exact psh_congr (gS 5 (by omega)) (gS 4 (by omega)) (mom_congr gS gP hn12 (by omega))
  · rw [h8]; exact ang_congr gS gP gA hn12 hj
theorem RD_carry {μ μ' : zM} {t c : Nat} {a : Nat → Int32} (hc : c < 3) (hB : IB a) (h : RD μ t c a) (h6 : μ (6, t, 0) 6 = aS a 6) (h8 : ∀ j, j < 12 → μ (8, t, 0) j = ang (aS a) (aP a) (aA a) (rN a) j) (h11 : μ' (11, t, c) = mixF (μ (6, t, 0) 6) (24 * rN a) (dyf (μ (11, t, c)) (μ (8, t, 0)) (rN a) (psh (aS a) (mom (aS a) (aP a) (rN a))))) : RD μ' t c (tickF a) := by
  have hn12 := hB.2.2.1
  intro i hi
  rw [h11, tick_D (by have := hB.2.1; omega) hn12 hB.2.2.2.2 hc hi, h6]
  exact mixF_congr (by omega) (fun q hq => dyf_congr (by have := hB.2.1; omega) hn12 h (fun j hj => h8 j (by omega)) (fun _ _ => rfl) hq) i hi
theorem it_allA {a : Nat → Int32} {t : Nat} (h : Inv a t) {c : Nat} (hc : c < 3) : ∀ k, t + k < 2 ^ 29 → allA (aD (itF k a) c) (rN a) = allA (aD a c) (rN a)
  | 0, _ => rfl
  | k + 1, hk => by
    obtain ⟨hB, hS, hD, _⟩ := Inv_it h k (by omega)
    show allA (aD (tickF (itF k a)) c) (rN a) = _
    have := tick_allA hB hS hD hc
    rw [it_N] at this
    rw [this, it_allA h hc k (by omega)]
theorem ang_nat {S P A : Nat → Int32} {n r : Nat} (hr : r < n) : ∃ x, x < 3600 ∧ ang S P A n r = nI x := by
  unfold ang
  rw [if_pos hr]
  exact fmd_ok _
theorem x_arrives (μ : zM) (a : Nat → Int32) (h : Rep μ 0 a) (T : Nat) (hT : T ≤ 2 ^ 28) (hI : Inv a T) (c r s m : Int32) : zCs yX3_arrives prog_1_method_16_code 8 (some .int) 5 [zR (0, 0, 0), zI c, zI r, zI s, zI m] μ (fun μ' w => (¬ ((0 ≤ c ∧ c ≤ 2) ∧ (0 ≤ r ∧ r ≤ nI (rN a) - 1)) ∧ w = -1 ∧ μ' = μ) ∨ (((0 ≤ c ∧ c ≤ 2) ∧ (0 ≤ r ∧ r ≤ nI (rN a) - 1)) ∧ ¬ ((1 ≤ s ∧ s ≤ 1000) ∧ (1 ≤ m ∧ m ≤ 500)) ∧ w = -2 ∧ μ' = μ) ∨ (((0 ≤ c ∧ c ≤ 2) ∧ (0 ≤ r ∧ r ≤ nI (rN a) - 1)) ∧ ((1 ≤ s ∧ s ≤ 1000) ∧ (1 ≤ m ∧ m ≤ 500)) ∧ ∃ c' r' M : Nat, c' < 3 ∧ r' < rN a ∧ M ≤ 500 ∧ c = nI c' ∧ r = nI r' ∧ m = nI M ∧ ((allA (aD a c') (rN a) = 0 ∧ w = -5 ∧ μ' = μ) ∨ (¬ allA (aD a c') (rN a) = 0 ∧ FST (fun k => partB (itF k a) (rN a) c' r' s) M w ∧ zoT 1 μ μ')))) := by
  have hR0 := h
  obtain ⟨⟨g0, g1, g2⟩, gS, gP, gA, gT, gD, gM⟩ := h
  obtain ⟨hB, hS, hD, hM0⟩ := hI
  have hI : Inv a T := ⟨hB, hS, hD, hM0⟩
  have hn := hB.1
  have hn2 := hB.2.1
  have hn12 := hB.2.2.1
  have ht : (0 : Nat) < 4 := by omega
  have ht1 : (1 : Nat) < 4 := by omega
  refine zCt.of "DyeTank" rfl (by decide +kernel) rfl (Nat.le_of_ble_eq_true rfl) (fun K hR => ?_)
  have v0 := zv_0
  have v1 := zv_1
  have v2 := zv_2
  have v3 := zv_3
  have v4 := zv_4
  have v5 := zv_5 0 ht
  have v51 := zv_5 1 ht1
  have v9 := zv_9 0 ht
  refine z_ls (ls' := [zR (0, 0, 0), zI c, zI r, zI s, zI m, zN, zN, zN]) rfl ?_
  refine z_iload_n dX3_arrives_0 rfl rfl ?_
  refine z_cSi (c_isColour μ _) q_X3_isColour tw_245 dX3_arrives_1 rfl rfl (by omega) (Nat.le_of_ble_eq_true rfl) ?_
  refine z_beq (tgt := 18) dX3_arrives_4 (by decide) (fun h1 => ?_) (fun h1 => ?_)
  · refine z_iconst (v := -1) dX3_arrives_18 (by decide) ?_
    refine z_iret hR dX3_arrives_19 (⟨_, rfl, Or.inl ⟨fun q => h1 q.1, rfl, rfl⟩⟩)
  · refine z_aload_n dX3_arrives_7 rfl rfl ?_
    refine zg_X3_tank dX3_arrives_8 tw_162 ?_
    refine z_iload_n dX3_arrives_11 rfl rfl ?_
    refine z_cVi (c_hasRing μ 0 ht _) q_X2_hasRing tw_199 dX3_arrives_12 rfl rfl rfl (by omega) (Nat.le_of_ble_eq_true rfl) ?_
    rw [g0, hn]
    refine z_bne (tgt := 20) dX3_arrives_15 (by decide) (fun h2 => ?_) (fun h2 => ?_)
    · rw [ringP_iff (by omega) (by omega)] at h2
      refine z_iload_n dX3_arrives_20 rfl rfl ?_
      refine z_iconst (v := 1) dX3_arrives_21 (by decide) ?_
      refine z_sipush (v := 1000) dX3_arrives_22 (by decide) ?_
      refine z_cSi (c_within μ _ _ _) q_X3_within tw_182 dX3_arrives_25 rfl rfl (by omega) (Nat.le_of_ble_eq_true rfl) ?_
      refine z_beq (tgt := 43) dX3_arrives_28 (by decide) (fun h3 => ?_) (fun h3 => ?_)
      · refine z_bipush (v := -2) dX3_arrives_43 (by decide) ?_
        refine z_iret hR dX3_arrives_45 (⟨_, rfl, Or.inr (Or.inl ⟨⟨h1, h2⟩, fun q => h3 q.1, rfl, rfl⟩)⟩)
      · refine z_iload dX3_arrives_31 rfl ?_
        refine z_iconst (v := 1) dX3_arrives_33 (by decide) ?_
        refine z_sipush (v := 500) dX3_arrives_34 (by decide) ?_
        refine z_cSi (c_within μ _ _ _) q_X3_within tw_182 dX3_arrives_37 rfl rfl (by omega) (Nat.le_of_ble_eq_true rfl) ?_
        refine z_bne (tgt := 46) dX3_arrives_40 (by decide) (fun h4 => ?_) (fun h4 => ?_)
        · obtain ⟨M, hM, eM⟩ : ∃ M : Nat, M < 501 ∧ m = nI M := (rngS (by omega)).mp ⟨Int32.le_trans (by decide) h4.1, Int32.lt_of_le_of_lt h4.2 (by decide)⟩
          obtain ⟨c', hc, ec⟩ : ∃ c' : Nat, c' < 3 ∧ c = nI c' := (rngP (n := 3) (by omega) (by omega)).mp h1
          obtain ⟨r', hr, er⟩ : ∃ r' : Nat, r' < rN a ∧ r = nI r' := (rngP (by omega) (by omega)).mp h2
          subst eM ec er
          refine z_aload_n dX3_arrives_46 rfl rfl ?_
          refine zg_X3_tank dX3_arrives_47 tw_162 ?_
          refine zg_X2_totals dX3_arrives_50 tw_84 ?_
          refine z_iload_n dX3_arrives_53 rfl rfl ?_
          refine z_iald dX3_arrives_54 (fun _ _ => rfl) rfl hc ?_
          rw [gT c' hc]
          refine z_if_ne (tgt := 61) dX3_arrives_55 (by decide) (fun h5 => ?_) (fun h5 => ?_)
          · refine z_iload_n dX3_arrives_61 rfl rfl ?_
            refine z_i2l dX3_arrives_62 ?_
            refine z_aload_n dX3_arrives_63 rfl rfl ?_
            refine zg_X3_tank dX3_arrives_64 tw_162 ?_
            refine zg_X2_totals dX3_arrives_67 tw_84 ?_
            refine z_iload_n dX3_arrives_70 rfl rfl ?_
            refine z_iald dX3_arrives_71 (fun _ _ => rfl) rfl hc ?_
            rw [gT c' hc]
            refine z_i2l dX3_arrives_72 ?_
            refine z_lmul dX3_arrives_73 ?_
            refine z_lstS dX3_arrives_74 (by decide) rfl ?_
            refine z_aload_n dX3_arrives_76 rfl rfl ?_
            refine zg_X3_copy dX3_arrives_77 tw_163 ?_
            refine z_aload_n dX3_arrives_80 rfl rfl ?_
            refine zg_X3_tank dX3_arrives_81 tw_162 ?_
            refine z_cVv (c_tankLike μ 1 0 (rK a) ht1 ht (by omega) (g2.trans hB.2.2.2.1) hB.2.2.2.2) q_X2_becomeLike tw_417 dX3_arrives_84 rfl rfl rfl (by omega) (Nat.le_of_ble_eq_true rfl) (fun μ1 hh => ?_)
            obtain ⟨o1, b5, b6, b7, b8, b9, b11, bM⟩ := hh
            have r1 := Like_Rep hR0 b5 b6 b7 b8 b9 b11 bM
            have loop : ∀ (f i : Nat) (μ' : zM), i ≤ M + 1 → M + 1 < i + f → zoT 1 μ μ' → RA μ' 1 (itF i a) → RD μ' 1 c' (itF i a) → (∀ j, j < i → partB (itF j a) (rN a) c' r' s = false) → Z K 5 "DyeTank" prog_1_method_16_code 8 90 [zR (0, 0, 0), zI (nI c'), zI (nI r'), zI s, zI (nI M), zL (s.toInt64 * (allA (aD a c') (rN a)).toInt64), zN, zI (nI i)] [] μ' := by
              intro f
              induction f with
              | zero => intro i μ' h6 h7 h8 h9 h10 h11; exact absurd ‹_ < _ + 0› (by omega)
              | succ f ih =>
                intro i μ' h6 h7 ho hra hrd hF
                refine z_iload dX3_arrives_90 rfl ?_
                refine z_iload dX3_arrives_92 rfl ?_
                refine z_icmp_gt (tgt := 141) dX3_arrives_94 (by decide) (fun hb => ?_) (fun hb => ?_)
                · have hb := nlt hb
                  refine z_bipush (v := -6) dX3_arrives_141 (by decide) ?_
                  refine z_iret hR dX3_arrives_143 (⟨_, rfl, Or.inr (Or.inr ⟨⟨h1, h2⟩, ⟨h3, h4⟩, c', r', M, hc, hr, by omega, rfl, rfl, rfl, Or.inr ⟨h5, Or.inr ⟨fun j hj => hF j (by omega), rfl⟩, ho⟩⟩)⟩)
                · have hb := nnlt hb
                  obtain ⟨iB, iS, iD, iM⟩ := Inv_it hI i (by omega)
                  have eN : rN (itF i a) = rN a := it_N a i
                  have e0 : μ' (5, 1, 0) 0 = nI (rN a) := by rw [hra.1, iB.1, eN]
                  have ePart : partB (itF i a) (rN a) c' r' s = decide (s.toInt64 * (allA (aD a c') (rN a)).toInt64 ≤ 1000 * (ringS (aD (itF i a) c') r').toInt64) := by
                    unfold partB
                    rw [it_allA hI hc i (by omega)]
                  refine z_ldc2 (v := 1000) dX3_arrives_97 tw_435 ?_
                  refine z_aload_n dX3_arrives_100 rfl rfl ?_
                  refine zg_X3_copy dX3_arrives_101 tw_163 ?_
                  refine z_iload_n dX3_arrives_104 rfl rfl ?_
                  refine z_iload_n dX3_arrives_105 rfl rfl ?_
                  refine z_cVi (c_amountInRing μ' 1 ht1 c' r' hc (by omega)) q_X2_amountInRing tw_332 dX3_arrives_106 rfl rfl rfl (by omega) (Nat.le_of_ble_eq_true rfl) ?_
                  rw [ringS_congr hrd (by omega)]
                  refine z_i2l dX3_arrives_109 ?_
                  refine z_lmul dX3_arrives_110 ?_
                  refine z_lload dX3_arrives_111 rfl ?_
                  refine z_lcmp dX3_arrives_113 ?_
                  refine z_if_lt (tgt := 120) dX3_arrives_114 (by decide) (fun hz => ?_) (fun hz => ?_)
                  · have hfalse : partB (itF i a) (rN a) c' r' s = false := by
                      rw [ePart]
                      exact decide_eq_false (fun q => absurd ((lcmp_ge2 _ _).mpr q) (Int32.not_le.mpr hz))
                    refine z_aload_n dX3_arrives_120 rfl rfl ?_
                    refine zg_X3_copy dX3_arrives_121 tw_163 ?_
                    refine z_cVv (c_turn μ' 1 (rN a) ht1 e0 hn2 hn12) q_X2_turn tw_430 dX3_arrives_124 rfl rfl rfl (by omega) (Nat.le_of_ble_eq_true rfl) (fun μ2 hh => ?_)
                    obtain ⟨o2, q7, q8, q16, q17⟩ := hh
                    have hT2 := RA_turn iB hra o2 (by rw [eN]; exact q7) (by rw [eN]; exact q8) (by rw [eN]; exact q17)
                    rw [eN] at hT2
                    obtain ⟨ra2, p17, p8⟩ := hT2
                    have hrd2 : RD μ2 1 c' (itF i a) := fun j hj => by rw [o2.at (11, 1, c') (by simp)]; exact hrd j hj
                    have e62 : μ2 (6, 1, 0) 6 = aS (itF i a) 6 := by rw [o2.at (6, 1, 0) (by simp)]; exact hra.2.1 6 (by omega)
                    refine z_aload_n dX3_arrives_127 rfl rfl ?_
                    refine zg_X3_copy dX3_arrives_128 tw_163 ?_
                    refine z_iload_n dX3_arrives_131 rfl rfl ?_
                    refine z_cVv (c_carry μ2 1 c' (rN a) ht1 hc (by rw [o2.at (5, 1, 0) (by simp)]; exact e0) hn12 (psh (aS (itF i a)) (mom (aS (itF i a)) (aP (itF i a)) (rN a))) p17 (fun q hq => by rw [p8 q (by omega)]; exact ang_nat hq) (fun j hj => by rw [hrd2 j hj, i_nn]; exact (iD c' hc).1 j hj) (by rw [e62, i_nn]; exact iS.2.2.2.2.2.1)) q_X2_carry tw_436 dX3_arrives_132 rfl rfl rfl (by omega) (Nat.le_of_ble_eq_true rfl) (fun μ3 hh => ?_)
                    obtain ⟨o3, q11⟩ := hh
                    have hrd3 : RD μ3 1 c' (tickF (itF i a)) := RD_carry hc iB hrd2 e62 (by rw [eN]; exact p8) (by rw [eN]; exact q11)
                    have ra3 : RA μ3 1 (tickF (itF i a)) := by
                      unfold RA at ra2 ⊢
                      rw [o3.at (5, 1, 0) (by simp), o3.at (6, 1, 0) (by simp), o3.at (7, 1, 0) (by simp), o3.at (8, 1, 0) (by simp)]
                      exact ra2
                    refine z_incS dX3_arrives_135 rfl (inc1 _) (by decide) rfl ?_
                    refine z_goto (tgt := 90) dX3_arrives_138 (by decide) ?_
                    refine ih (i + 1) μ3 (by omega) (by omega) ((ho.tr (o2.zoT (by simp))).tr (o3.zoT (by simp))) ra3 hrd3 ?_
                    intro j hj
                    by_cases e : j = i
                    · rw [e]; exact hfalse
                    · exact hF j (by omega)
                  · have htrue : partB (itF i a) (rN a) c' r' s = true := by
                      rw [ePart]
                      exact decide_eq_true ((lcmp_ge2 _ _).mp (Int32.not_lt.mp hz))
                    refine z_iload dX3_arrives_117 rfl ?_
                    refine z_iret hR dX3_arrives_119 (⟨_, rfl, Or.inr (Or.inr ⟨⟨h1, h2⟩, ⟨h3, h4⟩, c', r', M, hc, hr, by omega, rfl, rfl, rfl, Or.inr ⟨h5, Or.inl ⟨i, hb, htrue, hF, rfl⟩, ho⟩⟩)⟩)
            refine z_iconst (v := 0) dX3_arrives_87 (by decide) ?_
            refine z_istS dX3_arrives_88 (by decide) rfl ?_
            exact loop (M + 2) 0 μ1 (by omega) (by omega) (o1.zoT (by simp)) ⟨r1.1.1, r1.2.1, r1.2.2.1, r1.2.2.2.1⟩ (r1.2.2.2.2.2.1 c' hc) (fun j hj => absurd hj (by omega))
          · refine z_bipush (v := -5) dX3_arrives_58 (by decide) ?_
            refine z_iret hR dX3_arrives_60 (⟨_, rfl, Or.inr (Or.inr ⟨⟨h1, h2⟩, ⟨h3, h4⟩, c', r', M, hc, hr, by omega, rfl, rfl, rfl, Or.inl ⟨h5, rfl, rfl⟩⟩)⟩)
        · refine z_bipush (v := -2) dX3_arrives_43 (by decide) ?_
          refine z_iret hR dX3_arrives_45 (⟨_, rfl, Or.inr (Or.inl ⟨⟨h1, h2⟩, fun q => h4 q.2, rfl, rfl⟩)⟩)
    · rw [ringP_iff (by omega) (by omega)] at h2
      refine z_iconst (v := -1) dX3_arrives_18 (by decide) ?_
      refine z_iret hR dX3_arrives_19 (⟨_, rfl, Or.inl ⟨fun q => h2 q.2, rfl, rfl⟩⟩)
