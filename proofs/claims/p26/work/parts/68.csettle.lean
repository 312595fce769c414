/-! settles of the component -/
def IP (a : Nat → Int32) (t : Nat) : Prop := VB (aP a) (2000 + 4 * (t : Int))
theorem VB_congr {P Q : Nat → Int32} {B : Int} (e : ∀ r, r < 12 → P r = Q r) (h : VB Q B) : VB P B := by
  unfold VB at h ⊢
  rw [vel_congr (e 0 (by omega)), vel_congr (e 1 (by omega))]
  refine ⟨fun r h1 hr => ?_, h.2⟩
  rw [vel_congr (e r hr)]
  exact h.1 r h1 hr
theorem IS_SS {a : Nat → Int32} (h : IS a) : SS (aS a) := ⟨h.1, h.2.1, h.2.2.1, h.2.2.2.1, h.2.2.2.2.1⟩
theorem IP_tick {a : Nat → Int32} {t : Nat} (ht : t ≤ 101500) (hB : IB a) (hS : IS a) (h : IP a t) : IP (tickF a) (t + 1) := by
  have := mom_VB (n := rN a) (IS_SS hS) (B := 2000 + 4 * (t : Int)) (by omega) h hB.2.1 hB.2.2.1
  unfold IP
  rw [show (2000 + 4 * ((t + 1 : Nat) : Int)) = 2000 + 4 * (t : Int) + 4 by omega]
  exact VB_congr (fun r hr => tick_P hr) this
theorem IP_it {a : Nat → Int32} {t : Nat} (hI : Inv a t) (h : IP a t) : ∀ k, t + k ≤ 101500 → IP (itF k a) (t + k)
  | 0, _ => h
  | k + 1, hk => by
    have hk2 : t + k ≤ 101500 := by omega
    obtain ⟨hB, hS, _, _⟩ := Inv_it hI k (by omega)
    exact IP_tick hk2 hB hS (IP_it hI h k hk2)
theorem abs_iff {x b : Int32} (hx : -1000000 ≤ x.toInt ∧ x.toInt ≤ 1000000) (hb : 0 ≤ b.toInt ∧ b.toInt ≤ 1000) : absI x ≤ b ↔ (-b ≤ x ∧ x ≤ b) := by
  have eb : (-b).toInt = -b.toInt := by
    rw [← Int32.zero_sub, Int32.toInt_sub, Int32.toInt_zero, Int.bmod_eq_of_le (by omega) (by omega)]
    omega
  have ex : (0 - x).toInt = -x.toInt := by
    rw [Int32.toInt_sub, Int32.toInt_zero, Int.bmod_eq_of_le (by omega) (by omega)]
    omega
  rw [Int32.le_iff_toInt_le, Int32.le_iff_toInt_le, Int32.le_iff_toInt_le, eb]
  unfold absI
  by_cases h : 0 ≤ x
  · rw [if_pos h]
    rw [i_nn] at h
    omega
  · rw [if_neg h, ex]
    rw [i_nn] at h
    omega
theorem x_settles (μ : zM) (a : Nat → Int32) (h : Rep μ 0 a) (T : Nat) (hT : T ≤ 100000) (hI : Inv a T) (hP : IP a T) (b m : Int32) : zCs yX3_settles prog_1_method_15_code 4 (some .int) 5 [zR (0, 0, 0), zI b, zI m] μ (fun μ' w => (¬ ((0 ≤ b ∧ b ≤ 1000) ∧ (1 ≤ m ∧ m ≤ 1000)) ∧ w = -2 ∧ μ' = μ) ∨ (((0 ≤ b ∧ b ≤ 1000) ∧ (1 ≤ m ∧ m ≤ 1000)) ∧ ∃ M : Nat, M ≤ 1000 ∧ m = nI M ∧ FST (fun k => settB (itF k a) (rN a) b) M w ∧ zoT 1 μ μ')) := by
  have hR0 := h
  obtain ⟨⟨g0, g1, g2⟩, gS, gP, gA, gT, gD, gM⟩ := h
  obtain ⟨hB, hS, hD, hM0⟩ := hI
  have hI : Inv a T := ⟨hB, hS, hD, hM0⟩
  have hn2 := hB.2.1
  have hn12 := hB.2.2.1
  have ht : (0 : Nat) < 4 := by omega
  have ht1 : (1 : Nat) < 4 := by omega
  refine zCt.of "DyeTank" rfl (by decide +kernel) rfl (Nat.le_of_ble_eq_true rfl) (fun K hR => ?_)
  have v0 := zv_0
  have v1 := zv_1
  have v2 := zv_2
  have v3 := zv_3
  have v4 := zv_4
  have v5 := zv_5 0 ht
  have v51 := zv_5 1 ht1
  refine z_ls (ls' := [zR (0, 0, 0), zI b, zI m, zN]) rfl ?_
  refine z_iload_n dX3_settles_0 rfl rfl ?_
  refine z_iconst (v := 0) dX3_settles_1 (by decide) ?_
  refine z_sipush (v := 1000) dX3_settles_2 (by decide) ?_
  refine z_cSi (c_within μ _ _ _) q_X3_within tw_181 dX3_settles_5 rfl rfl (by omega) (Nat.le_of_ble_eq_true rfl) ?_
  refine z_beq (tgt := 22) dX3_settles_8 (by decide) (fun h1 => ?_) (fun h1 => ?_)
  · refine z_bipush (v := -2) dX3_settles_22 (by decide) ?_
    refine z_iret hR dX3_settles_24 (⟨_, rfl, Or.inl ⟨fun q => h1 q.1, rfl, rfl⟩⟩)
  · refine z_iload_n dX3_settles_11 rfl rfl ?_
    refine z_iconst (v := 1) dX3_settles_12 (by decide) ?_
    refine z_sipush (v := 1000) dX3_settles_13 (by decide) ?_
    refine z_cSi (c_within μ _ _ _) q_X3_within tw_181 dX3_settles_16 rfl rfl (by omega) (Nat.le_of_ble_eq_true rfl) ?_
    refine z_bne (tgt := 25) dX3_settles_19 (by decide) (fun h2 => ?_) (fun h2 => ?_)
    · obtain ⟨M, hM, eM⟩ : ∃ M : Nat, M < 1001 ∧ m = nI M := (rngS (by omega)).mp ⟨Int32.le_trans (by decide) h2.1, Int32.lt_of_le_of_lt h2.2 (by decide)⟩
      subst eM
      have hbb : 0 ≤ b.toInt ∧ b.toInt ≤ 1000 := by
        have q1 := Int32.le_iff_toInt_le.mp h1.1
        have q2 := Int32.le_iff_toInt_le.mp h1.2
        rw [Int32.toInt_zero] at q1
        rw [show (1000 : Int32).toInt = 1000 by decide] at q2
        exact ⟨q1, q2⟩
      refine z_aload_n dX3_settles_25 rfl rfl ?_
      refine zg_X3_copy dX3_settles_26 tw_162 ?_
      refine z_aload_n dX3_settles_29 rfl rfl ?_
      refine zg_X3_tank dX3_settles_30 tw_161 ?_
      refine z_cVv (c_tankLike μ 1 0 (rK a) ht1 ht (by omega) (g2.trans hB.2.2.2.1) hB.2.2.2.2) q_X2_becomeLike tw_441 dX3_settles_33 rfl rfl rfl (by omega) (Nat.le_of_ble_eq_true rfl) (fun μ1 hh => ?_)
      obtain ⟨o1, b5, b6, b7, b8, b9, b11, bM⟩ := hh
      have r1 := Like_Rep hR0 b5 b6 b7 b8 b9 b11 bM
      have loop : ∀ (f i : Nat) (μ' : zM), i ≤ M + 1 → M + 1 < i + f → zoT 1 μ μ' → RA μ' 1 (itF i a) → (∀ j, j < i → settB (itF j a) (rN a) b = false) → Z K 5 "DyeTank" prog_1_method_15_code 4 38 [zR (0, 0, 0), zI b, zI (nI M), zI (nI i)] [] μ' := by
        intro f
        induction f with
        | zero => intro i μ' h6 h7 h8 h9 h10; exact absurd ‹_ < _ + 0› (by omega)
        | succ f ih =>
          intro i μ' h6 h7 ho hra hF
          refine z_iload_n dX3_settles_38 rfl rfl ?_
          refine z_iload_n dX3_settles_39 rfl rfl ?_
          refine z_icmp_gt (tgt := 69) dX3_settles_40 (by decide) (fun hb => ?_) (fun hb => ?_)
          · have hb := nlt hb
            refine z_bipush (v := -6) dX3_settles_69 (by decide) ?_
            refine z_iret hR dX3_settles_71 (⟨_, rfl, Or.inr ⟨⟨h1, h2⟩, M, by omega, rfl, Or.inr ⟨fun j hj => hF j (by omega), rfl⟩, ho⟩⟩)
          · have hb := nnlt hb
            obtain ⟨iB, iS, iD, iM⟩ := Inv_it hI i (by omega)
            have iP := IP_it hI hP i (by omega)
            have eN : rN (itF i a) = rN a := it_N a i
            have e0 : μ' (5, 1, 0) 0 = nI (rN a) := by rw [hra.1, iB.1, eN]
            have hiff : (∀ r, r < rN a → absI (vel (μ' (7, 1, 0)) r - μ' (6, 1, 0) 4) ≤ b) ↔ settB (itF i a) (rN a) b = true := by
              unfold settB
              rw [decide_eq_true_iff]
              have one : ∀ r, r < rN a → (absI (vel (μ' (7, 1, 0)) r - μ' (6, 1, 0) 4) ≤ b ↔ (-b ≤ vel (aP (itF i a)) r - aS (itF i a) 4 ∧ vel (aP (itF i a)) r - aS (itF i a) 4 ≤ b)) := by
                intro r hr
                rw [vel_congr (hra.2.2.1 r (by omega)), hra.2.1 4 (by omega)]
                have hv := VB_v iP (by omega) (show r < 12 by omega)
                have hs := iS.2.2.2.2.1
                refine abs_iff ?_ hbb
                rw [Int32.toInt_sub, Int.bmod_eq_of_le (by omega) (by omega)]
                omega
              exact ⟨fun q r hr => (one r hr).mp (q r hr), fun q r hr => (one r hr).mpr (q r hr)⟩
            refine z_aload_n dX3_settles_43 rfl rfl ?_
            refine zg_X3_copy dX3_settles_44 tw_162 ?_
            refine z_iload_n dX3_settles_47 rfl rfl ?_
            refine z_cVi (c_turnsWithFloor μ' 1 (rN a) ht1 e0 hn12 b) q_X2_turnsWithFloor tw_461 dX3_settles_48 rfl rfl rfl (by omega) (Nat.le_of_ble_eq_true rfl) ?_
            refine z_beq (tgt := 56) dX3_settles_51 (by decide) (fun hz => ?_) (fun hz => ?_)
            · have hfalse : settB (itF i a) (rN a) b = false := Bool.eq_false_iff.mpr (fun q => hz (hiff.mpr q))
              refine z_aload_n dX3_settles_56 rfl rfl ?_
              refine zg_X3_copy dX3_settles_57 tw_162 ?_
              refine z_cVv (c_turn μ' 1 (rN a) ht1 e0 hn2 hn12) q_X2_turn tw_465 dX3_settles_60 rfl rfl rfl (by omega) (Nat.le_of_ble_eq_true rfl) (fun μ2 hh => ?_)
              obtain ⟨o2, q7, q8, q16, q17⟩ := hh
              have hT2 := RA_turn iB hra o2 (by rw [eN]; exact q7) (by rw [eN]; exact q8) (by rw [eN]; exact q17)
              refine z_incS dX3_settles_63 rfl (inc1 _) (by decide) rfl ?_
              refine z_goto (tgt := 38) dX3_settles_66 (by decide) ?_
              refine ih (i + 1) μ2 (by omega) (by omega) (ho.tr (o2.zoT (by simp))) hT2.1 ?_
              intro j hj
              by_cases e : j = i
              · rw [e]; exact hfalse
              · exact hF j (by omega)
            · have htrue := hiff.mp hz
              refine z_iload_n dX3_settles_54 rfl rfl ?_
              refine z_iret hR dX3_settles_55 (⟨_, rfl, Or.inr ⟨⟨h1, h2⟩, M, by omega, rfl, Or.inl ⟨i, hb, htrue, hF, rfl⟩, ho⟩⟩)
      refine z_iconst (v := 0) dX3_settles_36 (by decide) ?_
      refine z_istS_n dX3_settles_37 rfl (by decide) rfl ?_
      exact loop (M + 2) 0 μ1 (by omega) (by omega) (o1.zoT (by simp)) ⟨r1.1.1, r1.2.1, r1.2.2.1, r1.2.2.2.1⟩ (fun j hj => absurd hj (by omega))
    · refine z_bipush (v := -2) dX3_settles_22 (by decide) ?_
      refine z_iret hR dX3_settles_24 (⟨_, rfl, Or.inl ⟨fun q => h2 q.2, rfl, rfl⟩⟩)
