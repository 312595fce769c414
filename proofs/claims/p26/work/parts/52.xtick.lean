/-! what a row keeps; tick of the component -/
theorem mvp_rng {n : Nat} (hn2 : 2 ≤ n) (hn12 : n ≤ 12) (p x : Int32) : ∃ q, q < 1000 * n ∧ mvp (1000 * nI n - 1) p x = nI q := by
  have el : 1000 * nI n - 1 = nI (1000 * n - 1) := by
    rw [show (1000 : Int32) * nI n = nI (1000 * n) from pk_mul 1000 n]
    exact pk_sub (b := 1) (by omega)
  rw [el]
  unfold mvp
  generalize hm : (if p + x < nI (1000 * n - 1) then p + x else nI (1000 * n - 1)) = m
  have hle : m ≤ nI (1000 * n - 1) := by
    rw [← hm]
    by_cases h : p + x < nI (1000 * n - 1)
    · rw [if_pos h]
      exact Int32.le_of_lt h
    · rw [if_neg h]
      exact Int32.le_refl _
  by_cases h0 : 0 < m
  · rw [if_pos h0]
    rw [Int32.le_iff_toInt_le, nI_toInt (by omega)] at hle
    rw [i_pos] at h0
    exact ⟨m.toInt.toNat, by omega, sw_of (by omega) (by omega)⟩
  · rw [if_neg h0]
    exact ⟨0, by omega, rfl⟩
def Inv (a : Nat → Int32) (t : Nat) : Prop := IB a ∧ IS a ∧ ID a ∧ IM a t
theorem IS_tick {a : Nat → Int32} (h : IS a) : IS (tickF a) := by
  unfold IS at h ⊢
  rw [tick_S (by omega), tick_S (by omega), tick_S (by omega), tick_S (by omega), tick_S (by omega), tick_S (by omega)]
  exact h
theorem Inv_tick {a : Nat → Int32} {t : Nat} (ht : t < 2 ^ 29) (h : Inv a t) : Inv (tickF a) (t + 1) := by
  obtain ⟨hB, hS, hD, hM⟩ := h
  refine ⟨?_, IS_tick hS, tick_ID hB hS hD, ?_⟩
  · unfold IB at hB ⊢
    rw [tick_N, tick_K, tick_0, tick_33]
    exact hB
  · intro m hm
    rw [tick_K] at hm
    rw [tick_N]
    obtain ⟨p, g, hp, hg, ep, eg⟩ := hM m hm
    have hk6 := hB.2.2.2.2
    obtain ⟨q, hq, eq⟩ := mvp_rng hB.2.1 hB.2.2.1 (a (34 + 104 * m)) (psh (aS a) (mom (aS a) (aP a) (rN a)) (p / 1000))
    refine ⟨q, g + 1, hq, by omega, ?_, ?_⟩
    · rw [show tickF a (34 + 104 * m) = mkF (midA a) (34 + 104 * m) 0 from tick_M (j := 0) hm (by omega)]
      show plN (midA a) (34 + 104 * m) = _
      rw [(mid_pl hB hm hp ep).1, hB.1]
      exact eq
    · rw [show 36 + 104 * m = 34 + 104 * m + 2 by omega, tick_M (j := 2) hm (by omega)]
      show midA a (34 + 104 * m + 2) + 1 = _
      rw [mid_w (by omega), show 34 + 104 * m + 2 = 36 + 104 * m by omega, eg]
      exact nI_1 g
theorem Inv_it {a : Nat → Int32} {t : Nat} (h : Inv a t) : ∀ k, t + k < 2 ^ 29 → Inv (itF k a) (t + k)
  | 0, _ => h
  | k + 1, hk => Inv_tick (t := t + k) (by omega) (Inv_it h k (by omega))
theorem it_N (a : Nat → Int32) (k : Nat) : rN (itF k a) = rN a := by unfold rN; rw [itF_lo a (by omega) (by omega)]
theorem it_K (a : Nat → Int32) (k : Nat) : rK (itF k a) = rK a := by unfold rK; rw [itF_lo a (by omega) (by omega)]
theorem Inv_Wf {a : Nat → Int32} {t : Nat} (ht : t < 2 ^ 29) (h : Inv a t) : Wf a := by
  obtain ⟨⟨h0, h2, h12, h33, h6⟩, hS, hD, hM⟩ := h
  refine ⟨h0, h2, h12, h33, h6, fun m hm => ?_⟩
  obtain ⟨p, g, hp, hg, ep, eg⟩ := hM m hm
  exact ⟨p, g, hp, by omega, ep, by rw [show 34 + 104 * m + 2 = 36 + 104 * m by omega]; exact eg⟩
theorem Rep_MK {μ : zM} {t : Nat} {a : Nat → Int32} {T : Nat} (hT : T < 2 ^ 29) (h : Rep μ t a) (hI : Inv a T) : ∀ m, m < rK a → MK μ t (rN a) m := by
  intro m hm
  obtain ⟨p, g, hp, hg, ep, eg⟩ := hI.2.2.2 m hm
  obtain ⟨q0, q1, q2, q3, q4, q5⟩ := h.2.2.2.2.2.2 m hm
  exact ⟨p, g % 50, hp, Nat.mod_lt _ (by omega), q0.trans ep, by rw [q4, eg, nI_clamp (by omega)]⟩
theorem it_time {a : Nat → Int32} {t : Nat} (h : a 1 = nI t) : ∀ k, itF k a 1 = nI (t + k)
  | 0 => h
  | k + 1 => by
    show tickF (itF k a) 1 = _
    rw [tick_1, it_time h k]
    exact nI_1 (t + k)
theorem time_iff {t : Nat} (ht : t ≤ 100000) {x : Int32} (hx : 1 ≤ x ∧ x ≤ 1000) : (x ≤ 100000 - nI t) ↔ (nI t + x ≤ 100000) := by
  have b1 := Int32.le_iff_toInt_le.mp hx.1
  have b2 := Int32.le_iff_toInt_le.mp hx.2
  have e := nI_toInt (n := t) (by omega)
  rw [show (1 : Int32).toInt = 1 by decide] at b1
  rw [show (1000 : Int32).toInt = 1000 by decide] at b2
  rw [Int32.le_iff_toInt_le, Int32.le_iff_toInt_le, Int32.toInt_add, Int32.toInt_sub, e, show (100000 : Int32).toInt = 100000 by decide, Int.bmod_eq_of_le (by omega) (by omega), Int.bmod_eq_of_le (by omega) (by omega)]
  omega
theorem x_tick (μ : zM) (a : Nat → Int32) (h : Rep μ 0 a) (T t : Nat) (hT : T ≤ 2 ^ 28) (hI : Inv a T) (h1 : a 1 = nI t) (ht1 : t ≤ 100000) (x : Int32) : zCs yX3_tick prog_1_method_7_code 3 (some .int) 6 [zR (0, 0, 0), zI x] μ (fun μ' w => (¬ (1 ≤ x ∧ x ≤ 1000) ∧ w = -2 ∧ μ' = μ) ∨ ((1 ≤ x ∧ x ≤ 1000) ∧ ¬ a 1 + x ≤ 100000 ∧ w = -5 ∧ μ' = μ) ∨ ((1 ≤ x ∧ x ≤ 1000) ∧ a 1 + x ≤ 100000 ∧ ∃ M : Nat, M ≤ 1000 ∧ x = nI M ∧ w = itF M a 1 ∧ zoT 0 μ μ' ∧ Rep μ' 0 (itF M a))) := by
  have ht : (0 : Nat) < 4 := by omega
  refine zCt.of "DyeTank" rfl (by decide +kernel) rfl (Nat.le_of_ble_eq_true rfl) (fun K hR => ?_)
  have v0 := zv_0
  have v1 := zv_1
  have v2 := zv_2
  have v3 := zv_3
  have v4 := zv_4
  have v5 := zv_5 0 ht
  refine z_ls (ls' := [zR (0, 0, 0), zI x, zN]) rfl ?_
  refine z_iload_n dX3_tick_0 rfl rfl ?_
  refine z_iconst (v := 1) dX3_tick_1 (by decide) ?_
  refine z_sipush (v := 1000) dX3_tick_2 (by decide) ?_
  refine z_cSi (c_within μ _ _ _) q_X3_within tw_181 dX3_tick_5 rfl rfl (by omega) (Nat.le_of_ble_eq_true rfl) ?_
  refine z_bne (tgt := 14) dX3_tick_8 (by decide) (fun hx => ?_) (fun hx => ?_)
  · refine z_iload_n dX3_tick_14 rfl rfl ?_
    refine z_ldc (v := 100000) dX3_tick_15 tw_272 ?_
    refine z_aload_n dX3_tick_17 rfl rfl ?_
    refine zg_X3_tank dX3_tick_18 tw_161 ?_
    refine zg_X2_time dX3_tick_21 tw_73 ?_
    refine z_top ((show _ = nI t from h.1.2.1.trans h1)) ?_
    refine z_isub dX3_tick_24 ?_
    refine z_icmp_le (tgt := 31) dX3_tick_25 (by decide) (fun h2 => ?_) (fun h2 => ?_)
    · rw [time_iff ht1 hx, ← h1] at h2
      obtain ⟨M, hM, e⟩ : ∃ M : Nat, M < 1001 ∧ x = nI M := (rngS (by omega)).mp ⟨Int32.le_trans (by decide) hx.1, Int32.lt_of_le_of_lt hx.2 (by decide)⟩
      have loop : ∀ (f i : Nat) (μ' : zM), i ≤ M → M < i + f → zoT 0 μ μ' → Rep μ' 0 (itF i a) → Z K 6 "DyeTank" prog_1_method_7_code 3 33 [zR (0, 0, 0), zI x, zI (nI i)] [] μ' := by
        intro f
        induction f with
        | zero => intro i μ' h3 h4 h5 h6; exact absurd ‹_ < _ + 0› (by omega)
        | succ f ih =>
          intro i μ' h3 h4 ho hr
          refine z_iload_n dX3_tick_33 rfl rfl ?_
          refine z_iload_n dX3_tick_34 rfl rfl ?_
          rw [e]
          refine z_icmp_ge (tgt := 51) dX3_tick_35 (by decide) (fun hb => ?_) (fun hb => ?_)
          · have hb := nle hb
            have e9 : i = M := by omega
            subst e9
            refine z_aload_n dX3_tick_51 rfl rfl ?_
            refine zg_X3_tank dX3_tick_52 tw_161 ?_
            refine zg_X2_time dX3_tick_55 tw_73 ?_
            refine z_iret hR dX3_tick_58 (⟨_, rfl, Or.inr (Or.inr ⟨hx, h2, i, by omega, e, hr.1.2.1, ho, hr⟩)⟩)
          · have hb := nnle hb
            have hIi := Inv_it hI i (by omega)
            obtain ⟨hB, hS, hD, hM2⟩ := hIi
            have eN : μ' (5, 0, 0) 0 = nI (rN (itF i a)) := hr.1.1.trans hB.1
            have eK : μ' (5, 0, 0) 2 = nI (rK (itF i a)) := hr.1.2.2.trans hB.2.2.2.1
            refine z_aload_n dX3_tick_38 rfl rfl ?_
            refine zg_X3_tank dX3_tick_39 tw_161 ?_
            refine z_cVv (c_makeTick μ' 0 (rN (itF i a)) (rK (itF i a)) ht eN hB.2.1 hB.2.2.1 eK hB.2.2.2.2 (Rep_MK (by omega) hr (Inv_it hI i (by omega))) (fun c hc j hj => by rw [hr.2.2.2.2.2.1 c hc j hj, i_nn]; exact (hD c hc).1 j hj) (by rw [hr.2.1 6 (by omega), i_nn]; exact hS.2.2.2.2.2.1)) q_X2_makeTick tw_273 dX3_tick_42 rfl rfl rfl (by omega) (Nat.le_of_ble_eq_true rfl) (fun μ2 hh => ?_)
            obtain ⟨o2, q5, q7, q8, qd, μ1, qM, w5, w13, w16, w17⟩ := hh
            have hr2 : Rep μ2 0 (itF (i + 1) a) := tick_Rep (T := T + i) (by omega) hr hB hS hD hM2 o2 q5 q7 q8 qd μ1 qM w5 w13 w16 w17
            refine z_incS dX3_tick_45 rfl (inc1 _) (by decide) rfl ?_
            refine z_goto (tgt := 33) dX3_tick_48 (by decide) ?_
            rw [← e]
            exact ih (i + 1) μ2 (by omega) (by omega) (ho.tr (o2.zoT (by simp))) hr2
      refine z_iconst (v := 0) dX3_tick_31 (by decide) ?_
      refine z_istS_n dX3_tick_32 rfl (by decide) rfl ?_
      exact loop (M + 1) 0 μ (by omega) (by omega) zoT.rf h
    · rw [time_iff ht1 hx, ← h1] at h2
      refine z_bipush (v := -5) dX3_tick_28 (by decide) ?_
      refine z_iret hR dX3_tick_30 (⟨_, rfl, Or.inr (Or.inl ⟨hx, h2, rfl, rfl⟩)⟩)
  · refine z_bipush (v := -2) dX3_tick_11 (by decide) ?_
    refine z_iret hR dX3_tick_13 (⟨_, rfl, Or.inl ⟨hx, rfl, rfl⟩⟩)
