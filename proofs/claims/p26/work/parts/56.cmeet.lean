/-! meet of the component -/
def IG (a : Nat → Int32) : Prop := ∀ m, m < rK a → ∃ y, y < 3600 ∧ a (34 + 104 * m + 1) = nI y
theorem IG_tick {a : Nat → Int32} : IG (tickF a) := by
  intro m hm
  rw [tick_K] at hm
  rw [tick_M (j := 1) hm (by omega)]
  exact fmd_ok _
theorem IG_it {a : Nat → Int32} (h : IG a) : ∀ k, IG (itF k a)
  | 0 => h
  | _ + 1 => IG_tick
theorem far_eq {p q : Nat} (hp : p < 3600) (hq : q < 3600) : (if 3600 - absI (nI p - nI q) < absI (nI p - nI q) then 3600 - absI (nI p - nI q) else absI (nI p - nI q)) = farI (nI p) (nI q) := by
  have key : ∀ d, d < 3600 → (if 3600 - nI d < nI d then 3600 - nI d else nI d) = (if 1800 < nI d then 3600 - nI d else nI d) := by
    intro d hd
    have e : 3600 - nI d = nI (3600 - d) := pk_sub (a := 3600) (by omega)
    rw [e]
    by_cases h : 1800 < d
    · rw [if_pos ((nI_ltI (by omega) (by omega)).mpr (by omega)), if_pos (show (1800 : Int32) < nI d from (nI_ltI (a := 1800) (by omega) (by omega)).mpr h)]
    · rw [if_neg (fun q => h (by have := nlt q; omega)), if_neg (show ¬ (1800 : Int32) < nI d from fun q => h (nlt (a := 1800) q))]
  by_cases h : q ≤ p
  · have e1 : nI p - nI q = nI (p - q) := pk_sub h
    have e2 : absI (nI p - nI q) = nI (p - q) := by
      rw [e1]
      exact if_pos (nI_pos' (by omega))
    have e3 : fmd (nI p - nI q) 3600 = nI (p - q) := by
      rw [e1]
      unfold fmd
      have r0 : nI (p - q) / 3600 = 0 := by
        have := pk_div (a := p - q) (d := 3600) (by omega) (by omega) (by omega)
        rw [Nat.div_eq_of_lt (by omega)] at this
        exact this
      have x0 : ¬ (nI (p - q) ^^^ 3600 < 0) := by
        rw [xor_neg (by decide)]
        exact nI_pos (by omega)
      rw [if_neg (fun q => x0 q.1), r0, Int32.zero_mul, Int32.sub_zero]
    unfold farI
    rw [e2, e3]
    exact key _ (by omega)
  · have e1 : nI p - nI q = -nI (q - p) := by
      rw [← pk_sub (show p ≤ q by omega), Int32.neg_sub]
    have e0 : (nI (q - p)).toInt = (q - p : Nat) := nI_toInt (by omega)
    have en : (-nI (q - p)).toInt = -((q - p : Nat) : Int) := by
      rw [← Int32.zero_sub, Int32.toInt_sub, e0, Int32.toInt_zero, Int.bmod_eq_of_le (by omega) (by omega)]
      omega
    have hneg : ¬ 0 ≤ -nI (q - p) := by rw [i_nn, en]; omega
    have e2 : absI (nI p - nI q) = nI (q - p) := by
      rw [e1]
      unfold absI
      rw [if_neg hneg, Int32.zero_sub, Int32.neg_neg]
    have e3 : fmd (nI p - nI q) 3600 = nI (3600 - (q - p)) := by
      rw [e1]
      have r0 : -nI (q - p) / 3600 = 0 := by
        apply Int32.toInt_inj.mp
        rw [Int32.toInt_div, en, show (3600 : Int32).toInt = 3600 by decide, Int.neg_tdiv, Int.tdiv_eq_ediv_of_nonneg (by omega), Int.ediv_eq_zero_of_lt (by omega) (by omega)]
        decide
      unfold fmd
      rw [r0, Int32.zero_mul, Int32.sub_zero, if_pos]
      · rw [← pk_sub (a := 3600) (show q - p ≤ 3600 by omega), Int32.add_comm, ← Int32.sub_eq_add_neg]
        rfl
      · refine ⟨(xor_neg (by decide)).mpr (Int32.not_le.mp hneg), fun z => ?_⟩
        rw [z] at hneg
        exact hneg (by decide)
    unfold farI
    rw [e2, e3, key _ (by omega)]
    have ea : 3600 - nI (q - p) = nI (3600 - (q - p)) := pk_sub (a := 3600) (by omega)
    have eb : 3600 - nI (3600 - (q - p)) = nI (q - p) := by
      rw [show (3600 : Int32) - nI (3600 - (q - p)) = nI (3600 - (3600 - (q - p))) from pk_sub (a := 3600) (by omega)]
      congr 1
      omega
    rw [ea, eb]
    by_cases h1 : 1800 < q - p
    · rw [if_pos (show (1800 : Int32) < nI (q - p) from (nI_ltI (a := 1800) (by omega) (by omega)).mpr h1), if_neg (show ¬ (1800 : Int32) < nI (3600 - (q - p)) from fun z => by have := nlt (a := 1800) z; omega)]
    · rw [if_neg (show ¬ (1800 : Int32) < nI (q - p) from fun z => h1 (nlt (a := 1800) z))]
      by_cases h2 : q - p = 1800
      · rw [h2, if_neg (by decide)]
      · rw [if_pos (show (1800 : Int32) < nI (3600 - (q - p)) from (nI_ltI (a := 1800) (by omega) (by omega)).mpr (by omega))]
theorem RA_turn16 {μ μ' : zM} {t : Nat} {a : Nat → Int32} (hB : IB a) (h : RA μ t a) (h16 : ∀ j, j < rN a → μ' (16, t, 0) j = vel (mom (μ (6, t, 0)) (μ (7, t, 0)) (rN a)) j) : ∀ j, j < rN a → μ' (16, t, 0) j = vel (mom (aS a) (aP a) (rN a)) j := fun j hj => by
  have hn12 := hB.2.2.1
  rw [h16 j hj]
  exact vel_congr (mom_congr h.2.1 h.2.2.1 hn12 (by omega))
theorem x_meet (μ : zM) (a : Nat → Int32) (h : Rep μ 0 a) (T : Nat) (hT : T ≤ 2 ^ 28) (hI : Inv a T) (hG : IG a) (x y b m : Int32) : zCs yX3_meet prog_1_method_17_code 6 (some .int) 5 [zR (0, 0, 0), zI x, zI y, zI b, zI m] μ (fun μ' w => (¬ ((0 ≤ x ∧ x ≤ nI (rK a) - 1) ∧ (0 ≤ y ∧ y ≤ nI (rK a) - 1)) ∧ w = -1 ∧ μ' = μ) ∨ (((0 ≤ x ∧ x ≤ nI (rK a) - 1) ∧ (0 ≤ y ∧ y ≤ nI (rK a) - 1)) ∧ ¬ ((0 ≤ b ∧ b ≤ 1800) ∧ (1 ≤ m ∧ m ≤ 1000)) ∧ w = -2 ∧ μ' = μ) ∨ (((0 ≤ x ∧ x ≤ nI (rK a) - 1) ∧ (0 ≤ y ∧ y ≤ nI (rK a) - 1)) ∧ ((0 ≤ b ∧ b ≤ 1800) ∧ (1 ≤ m ∧ m ≤ 1000)) ∧ ∃ i j M : Nat, i < rK a ∧ j < rK a ∧ M ≤ 1000 ∧ x = nI i ∧ y = nI j ∧ m = nI M ∧ FST (fun k => nearB (itF k a) i j b) M w ∧ zoT 1 μ μ')) := by
  have hR0 := h
  obtain ⟨⟨g0, g1, g2⟩, gS, gP, gA, gT, gD, gM⟩ := h
  obtain ⟨hB, hS, hD, hM0⟩ := hI
  have hI : Inv a T := ⟨hB, hS, hD, hM0⟩
  have hn := hB.1
  have hn2 := hB.2.1
  have hn12 := hB.2.2.1
  have hk := hB.2.2.2.1
  have hk6 := hB.2.2.2.2
  have ht : (0 : Nat) < 4 := by omega
  have ht1 : (1 : Nat) < 4 := by omega
  have hiff : ∀ x : Int32, (0 ≤ x ∧ x < nI (rK a)) ↔ (0 ≤ x ∧ x ≤ nI (rK a) - 1) := by
    intro x
    constructor
    · intro q
      obtain ⟨m, hm, e⟩ := (rngS (by omega)).mp q
      exact (rngP (by omega) (by omega)).mpr ⟨m, hm, e⟩
    · intro q
      exact (rngS (by omega)).mpr (rngQ (by omega) q)
  refine zCt.of "DyeTank" rfl (by decide +kernel) rfl (Nat.le_of_ble_eq_true rfl) (fun K hR => ?_)
  have v0 := zv_0
  have v1 := zv_1
  have v2 := zv_2
  have v3 := zv_3
  have v4 := zv_4
  have v5 := zv_5 0 ht
  have v51 := zv_5 1 ht1
  have v12 := zv_12 1 ht1
  refine z_ls (ls' := [zR (0, 0, 0), zI x, zI y, zI b, zI m, zN]) rfl ?_
  refine z_aload_n dX3_meet_0 rfl rfl ?_
  refine zg_X3_tank dX3_meet_1 tw_161 ?_
  refine z_iload_n dX3_meet_4 rfl rfl ?_
  refine z_cVi (c_hasMarker μ 0 ht _) q_X2_hasMarker tw_260 dX3_meet_5 rfl rfl rfl (by omega) (Nat.le_of_ble_eq_true rfl) ?_
  rw [g2, hk]
  refine z_beq (tgt := 22) dX3_meet_8 (by decide) (fun h1 => ?_) (fun h1 => ?_)
  · rw [hiff] at h1
    refine z_iconst (v := -1) dX3_meet_22 (by decide) ?_
    refine z_iret hR dX3_meet_23 (⟨_, rfl, Or.inl ⟨fun q => h1 q.1, rfl, rfl⟩⟩)
  · rw [hiff] at h1
    refine z_aload_n dX3_meet_11 rfl rfl ?_
    refine zg_X3_tank dX3_meet_12 tw_161 ?_
    refine z_iload_n dX3_meet_15 rfl rfl ?_
    refine z_cVi (c_hasMarker μ 0 ht _) q_X2_hasMarker tw_260 dX3_meet_16 rfl rfl rfl (by omega) (Nat.le_of_ble_eq_true rfl) ?_
    rw [g2, hk]
    refine z_bne (tgt := 24) dX3_meet_19 (by decide) (fun h2 => ?_) (fun h2 => ?_)
    · rw [hiff] at h2
      refine z_iload_n dX3_meet_24 rfl rfl ?_
      refine z_iconst (v := 0) dX3_meet_25 (by decide) ?_
      refine z_sipush (v := 1800) dX3_meet_26 (by decide) ?_
      refine z_cSi (c_within μ _ _ _) q_X3_within tw_181 dX3_meet_29 rfl rfl (by omega) (Nat.le_of_ble_eq_true rfl) ?_
      refine z_beq (tgt := 47) dX3_meet_32 (by decide) (fun h3 => ?_) (fun h3 => ?_)
      · refine z_bipush (v := -2) dX3_meet_47 (by decide) ?_
        refine z_iret hR dX3_meet_49 (⟨_, rfl, Or.inr (Or.inl ⟨⟨h1, h2⟩, fun q => h3 q.1, rfl, rfl⟩)⟩)
      · refine z_iload dX3_meet_35 rfl ?_
        refine z_iconst (v := 1) dX3_meet_37 (by decide) ?_
        refine z_sipush (v := 1000) dX3_meet_38 (by decide) ?_
        refine z_cSi (c_within μ _ _ _) q_X3_within tw_181 dX3_meet_41 rfl rfl (by omega) (Nat.le_of_ble_eq_true rfl) ?_
        refine z_bne (tgt := 50) dX3_meet_44 (by decide) (fun h4 => ?_) (fun h4 => ?_)
        · obtain ⟨M, hM, eM⟩ : ∃ M : Nat, M < 1001 ∧ m = nI M := (rngS (by omega)).mp ⟨Int32.le_trans (by decide) h4.1, Int32.lt_of_le_of_lt h4.2 (by decide)⟩
          obtain ⟨i, hi, ei⟩ := rngQ (n := rK a) (by omega) h1
          obtain ⟨j, hj, ej⟩ := rngQ (n := rK a) (by omega) h2
          subst eM ei ej
          have v13i := zv_13 1 ht1 i (by omega)
          have v13j := zv_13 1 ht1 j (by omega)
          refine z_aload_n dX3_meet_50 rfl rfl ?_
          refine zg_X3_copy dX3_meet_51 tw_162 ?_
          refine z_aload_n dX3_meet_54 rfl rfl ?_
          refine zg_X3_tank dX3_meet_55 tw_161 ?_
          refine z_cVv (c_tankLike μ 1 0 (rK a) ht1 ht (by omega) (g2.trans hk) hk6) q_X2_becomeLike tw_441 dX3_meet_58 rfl rfl rfl (by omega) (Nat.le_of_ble_eq_true rfl) (fun μ1 hh => ?_)
          obtain ⟨o1, b5, b6, b7, b8, b9, b11, bM⟩ := hh
          have r1 := Like_Rep hR0 b5 b6 b7 b8 b9 b11 bM
          have loop : ∀ (f s : Nat) (μ' : zM), s ≤ M + 1 → M + 1 < s + f → zoT 1 μ μ' → RA μ' 1 (itF s a) → μ' (5, 1, 0) 2 = nI (rK a) → (∀ q, q < rK a → RepM μ' 1 q (itF s a)) → (∀ k, k < s → nearB (itF k a) i j b = false) → Z K 5 "DyeTank" prog_1_method_17_code 6 64 [zR (0, 0, 0), zI (nI i), zI (nI j), zI b, zI (nI M), zI (nI s)] [] μ' := by
            intro f
            induction f with
            | zero => intro s μ' h6 h7 h8 h9 h10 h11 h12; exact absurd ‹_ < _ + 0› (by omega)
            | succ f ih =>
              intro s μ' h6 h7 ho hra hrk hrm hF
              refine z_iload dX3_meet_64 rfl ?_
              refine z_iload dX3_meet_66 rfl ?_
              refine z_icmp_gt (tgt := 119) dX3_meet_68 (by decide) (fun hb => ?_) (fun hb => ?_)
              · have hb := nlt hb
                refine z_bipush (v := -6) dX3_meet_119 (by decide) ?_
                refine z_iret hR dX3_meet_121 (⟨_, rfl, Or.inr (Or.inr ⟨⟨h1, h2⟩, ⟨h3, h4⟩, i, j, M, hi, hj, by omega, rfl, rfl, rfl, Or.inr ⟨fun k hk => hF k (by omega), rfl⟩, ho⟩)⟩)
              · have hb := nnlt hb
                obtain ⟨iB, iS, iD, iM⟩ := Inv_it hI s (by omega)
                have eN : rN (itF s a) = rN a := it_N a s
                have eK : rK (itF s a) = rK a := it_K a s
                have e0 : μ' (5, 1, 0) 0 = nI (rN a) := by rw [hra.1, iB.1, eN]
                obtain ⟨p0, p1, p2, p3, p4, p5⟩ := hrm i hi
                obtain ⟨q0, q1, q2, q3, q4, q5⟩ := hrm j hj
                obtain ⟨yi, hyi, eyi⟩ := IG_it hG s i (by rw [eK]; exact hi)
                obtain ⟨yj, hyj, eyj⟩ := IG_it hG s j (by rw [eK]; exact hj)
                have eNear : nearB (itF s a) i j b = decide (μ' (13, 1, i) 0 / 1000 = μ' (13, 1, j) 0 / 1000 ∧ (if 3600 - absI (μ' (13, 1, i) 1 - μ' (13, 1, j) 1) < absI (μ' (13, 1, i) 1 - μ' (13, 1, j) 1) then 3600 - absI (μ' (13, 1, i) 1 - μ' (13, 1, j) 1) else absI (μ' (13, 1, i) 1 - μ' (13, 1, j) 1)) ≤ b) := by
                  unfold nearB
                  rw [p0, p1, q0, q1, eyi, eyj, far_eq hyi hyj]
                refine z_aload_n dX3_meet_71 rfl rfl ?_
                refine zg_X3_copy dX3_meet_72 tw_162 ?_
                refine zg_X2_markers dX3_meet_75 tw_87 ?_
                refine z_iload_n dX3_meet_78 rfl rfl ?_
                refine z_ald12 dX3_meet_79 rfl (show i < 6 by omega) ?_
                refine z_aload_n dX3_meet_80 rfl rfl ?_
                refine zg_X3_copy dX3_meet_81 tw_162 ?_
                refine zg_X2_markers dX3_meet_84 tw_87 ?_
                refine z_iload_n dX3_meet_87 rfl rfl ?_
                refine z_ald12 dX3_meet_88 rfl (show j < 6 by omega) ?_
                refine z_iload_n dX3_meet_89 rfl rfl ?_
                refine z_cVi (c_isNear μ' 1 i j ht1 (by omega) (by omega) b) q_X0_isNear tw_482 dX3_meet_90 rfl rfl rfl (by omega) (Nat.le_of_ble_eq_true rfl) ?_
                refine z_beq (tgt := 99) dX3_meet_93 (by decide) (fun hz => ?_) (fun hz => ?_)
                · have hfalse : nearB (itF s a) i j b = false := by
                    rw [eNear]
                    exact decide_eq_false hz
                  refine z_aload_n dX3_meet_99 rfl rfl ?_
                  refine zg_X3_copy dX3_meet_100 tw_162 ?_
                  refine z_cVv (c_turn μ' 1 (rN a) ht1 e0 hn2 hn12) q_X2_turn tw_465 dX3_meet_103 rfl rfl rfl (by omega) (Nat.le_of_ble_eq_true rfl) (fun μ2 hh => ?_)
                  obtain ⟨o2, t7, t8, t16, t17⟩ := hh
                  have hT2 := RA_turn iB hra o2 (by rw [eN]; exact t7) (by rw [eN]; exact t8) (by rw [eN]; exact t17)
                  obtain ⟨ra2, p17, p8⟩ := hT2
                  have p16 := RA_turn16 (μ' := μ2) iB hra (by rw [eN]; exact t16)
                  have w13 : ∀ q, μ2 (13, 1, q) = μ' (13, 1, q) ∧ μ2 (14, 1, q) = μ' (14, 1, q) ∧ μ2 (15, 1, q) = μ' (15, 1, q) := fun q => ⟨o2.at _ (by simp), o2.at _ (by simp), o2.at _ (by simp)⟩
                  have w5 : μ2 (5, 1, 0) = μ' (5, 1, 0) := o2.at _ (by simp)
                  have hMK : ∀ q, q < rK a → MK μ2 1 (rN a) q := by
                    intro q hq
                    obtain ⟨pp, g, hp, hg, ep, eg⟩ := iM q (by rw [eK]; exact hq)
                    obtain ⟨u0, u1, u2, u3, u4, u5⟩ := hrm q hq
                    refine ⟨pp, g % 50, by rw [← eN]; exact hp, Nat.mod_lt _ (by omega), ?_, ?_⟩
                    · rw [(w13 q).1, u0, ep]
                    · rw [(w13 q).1, u4, eg, nI_clamp (by omega)]
                  refine z_aload_n dX3_meet_106 rfl rfl ?_
                  refine zg_X3_copy dX3_meet_107 tw_162 ?_
                  refine z_cVv (c_moveMarkers μ2 1 (rN a) (rK a) ht1 (by rw [w5]; exact e0) hn12 (by rw [w5]; exact hrk) hk6 hMK) q_X2_moveMarkers tw_487 dX3_meet_110 rfl rfl rfl (by omega) (Nat.le_of_ble_eq_true rfl) (fun μ3 hh => ?_)
                  obtain ⟨o3, hMS⟩ := hh
                  have ra3 : RA μ3 1 (tickF (itF s a)) := by
                    unfold RA at ra2 ⊢
                    rw [o3.at (5, 1, 0) (by simp), o3.at (6, 1, 0) (by simp), o3.at (7, 1, 0) (by simp), o3.at (8, 1, 0) (by simp)]
                    exact ra2
                  refine z_incS dX3_meet_113 rfl (inc1 _) (by decide) rfl ?_
                  refine z_goto (tgt := 64) dX3_meet_116 (by decide) ?_
                  refine ih (s + 1) μ3 (by omega) (by omega) ((ho.tr (o2.zoT (by simp))).tr (o3.zoT (by simp))) ra3 (by rw [o3.at (5, 1, 0) (by simp), w5]; exact hrk) ?_ ?_
                  · intro q hq
                    exact RepM_tick (T := T + s) (μ1 := μ2) (by omega) iB iM (by rw [eK]; exact hq) (hrm q hq) (by rw [w5]; exact hra.1) (w13 q) p16 p17 (hMS q hq)
                  · intro k hk
                    by_cases e : k = s
                    · rw [e]; exact hfalse
                    · exact hF k (by omega)
                · have htrue : nearB (itF s a) i j b = true := by
                    rw [eNear]
                    exact decide_eq_true hz
                  refine z_iload dX3_meet_96 rfl ?_
                  refine z_iret hR dX3_meet_98 (⟨_, rfl, Or.inr (Or.inr ⟨⟨h1, h2⟩, ⟨h3, h4⟩, i, j, M, hi, hj, by omega, rfl, rfl, rfl, Or.inl ⟨s, hb, htrue, hF, rfl⟩, ho⟩)⟩)
          refine z_iconst (v := 0) dX3_meet_61 (by decide) ?_
          refine z_istS dX3_meet_62 (by decide) rfl ?_
          exact loop (M + 2) 0 μ1 (by omega) (by omega) (o1.zoT (by simp)) ⟨r1.1.1, r1.2.1, r1.2.2.1, r1.2.2.2.1⟩ (r1.1.2.2.trans hk) r1.2.2.2.2.2.2 (fun k hk => absurd hk (by omega))
        · refine z_bipush (v := -2) dX3_meet_47 (by decide) ?_
          refine z_iret hR dX3_meet_49 (⟨_, rfl, Or.inr (Or.inl ⟨⟨h1, h2⟩, fun q => h4 q.2, rfl, rfl⟩)⟩)
    · rw [hiff] at h2
      refine z_iconst (v := -1) dX3_meet_22 (by decide) ?_
      refine z_iret hR dX3_meet_23 (⟨_, rfl, Or.inl ⟨fun q => h2 q.2, rfl, rfl⟩⟩)
