/-! setUp and marker of the component -/
theorem beg_S (x : Int32) {j : Nat} (hj : j < 7) : (ztab 40).getD j 0 = aS (beg x) j := by
  rcases (show j = 0 ∨ j = 1 ∨ j = 2 ∨ j = 3 ∨ j = 4 ∨ j = 5 ∨ j = 6 by omega) with e | e | e | e | e | e | e <;> subst e <;> rfl
theorem beg_0 (x : Int32) {k : Nat} (hk : 9 ≤ k ∨ k = 1) : beg x k = 0 := by
  unfold beg
  rw [if_neg (by omega), if_neg (by omega), if_neg (by omega), if_neg (by omega), if_neg (by omega), if_neg (by omega)]
theorem allA_0 {f : Nat → Int32} (h : ∀ i, f i = 0) (n : Nat) : allA f n = 0 := by
  have hr : ∀ L r, rowS f L r = 0 := fun L r => sm_zero 24 (fun k _ => h _)
  unfold allA
  rw [sm_zero n (fun k _ => hr 0 k), sm_zero n (fun k _ => hr 1 k)]
  rfl
theorem x_setUp (μ : zM) (a : Nat → Int32) (h : Rep μ 0 a) (x : Int32) : zCs yX3_setUp prog_1_method_2_code 3 (some .int) 3 [zR (0, 0, 0), zI x] μ (fun μ' r => ((2 ≤ x ∧ x ≤ 12) ∧ r = a 0 ∧ zoT 0 μ μ' ∧ Rep μ' 0 (beg x)) ∨ ¬ (2 ≤ x ∧ x ≤ 12) ∧ r = -2 ∧ μ' = μ) := by
  have ht : (0 : Nat) < 4 := by omega
  refine zCt.of "DyeTank" rfl (by decide +kernel) rfl (Nat.le_of_ble_eq_true rfl) (fun K hR => ?_)
  have v0 := zv_0
  have v1 := zv_1
  have v2 := zv_2
  have v3 := zv_3
  have v4 := zv_4
  have v5 := zv_5 0 ht
  refine z_ls (ls' := [zR (0, 0, 0), zI x, zN]) rfl ?_
  refine z_iload_n dX3_setUp_0 rfl rfl ?_
  refine z_iconst (v := 2) dX3_setUp_1 (by decide) ?_
  refine z_bipush (v := 12) dX3_setUp_2 (by decide) ?_
  refine z_cSi (c_within μ _ _ _) q_X3_within tw_181 dX3_setUp_4 rfl rfl (by omega) (Nat.le_of_ble_eq_true rfl) ?_
  refine z_bne (tgt := 13) dX3_setUp_7 (by decide) (fun h1 => ?_) (fun h1 => ?_)
  · refine z_aload_n dX3_setUp_13 rfl rfl ?_
    refine zg_X3_tank dX3_setUp_14 tw_161 ?_
    refine zg_X2_rings dX3_setUp_17 tw_71 ?_
    refine z_istS_n dX3_setUp_20 rfl (by decide) rfl ?_
    refine z_aload_n dX3_setUp_21 rfl rfl ?_
    refine zg_X3_tank dX3_setUp_22 tw_161 ?_
    refine z_iload_n dX3_setUp_25 rfl rfl ?_
    refine z_cVv (c_startAgain μ 0 ht x) q_X2_startAgain tw_184 dX3_setUp_26 rfl rfl rfl (by omega) (Nat.le_of_ble_eq_true rfl) (fun μ2 hh => ?_)
    refine z_iload_n dX3_setUp_29 rfl rfl ?_
    obtain ⟨o2, b0, b1, b2, bS, bP, bA, bT, bD⟩ := hh
    refine z_iret hR dX3_setUp_30 (⟨_, rfl, Or.inl ⟨h1, h.1.1, o2.zoT (by simp), ?_⟩⟩)
    refine ⟨⟨b0, b1, b2⟩, fun j hj => (bS j hj).trans (beg_S x hj), fun r hr => (bP r hr).trans (beg_0 x (by omega)).symm, fun r hr => (bA r hr).trans (beg_0 x (by omega)).symm, fun c hc => (bT c hc).trans (allA_0 (fun i => beg_0 x (by omega)) _).symm, fun c hc i hi => (bD c hc i hi).trans (beg_0 x (by omega)).symm, fun m hm => ?_⟩
    exact absurd hm (by show ¬ m < (beg x 33).toNatClampNeg; rw [beg_0 x (by omega)]; show ¬ m < 0; omega)
  · refine z_bipush (v := -2) dX3_setUp_10 (by decide) ?_
    refine z_iret hR dX3_setUp_12 (⟨_, rfl, Or.inr ⟨h1, rfl, rfl⟩⟩)
theorem x_marker (μ : zM) (a : Nat → Int32) (h : Rep μ 0 a) (h0 : R0 a) (hk : a 33 = nI (rK a)) (hk6 : rK a ≤ 6) (p g : Int32) : zCs yX3_marker prog_1_method_12_code 4 (some .int) 2 [zR (0, 0, 0), zI p, zI g] μ (fun μ' w => (¬ ((0 ≤ p ∧ p ≤ 1000 * nI (rN a) - 1) ∧ (0 ≤ g ∧ g ≤ 3599)) ∧ w = -2 ∧ μ' = μ) ∨ (((0 ≤ p ∧ p ≤ 1000 * nI (rN a) - 1) ∧ (0 ≤ g ∧ g ≤ 3599)) ∧ rK a = 6 ∧ w = -4 ∧ μ' = μ) ∨ (((0 ≤ p ∧ p ≤ 1000 * nI (rN a) - 1) ∧ (0 ≤ g ∧ g ≤ 3599)) ∧ rK a < 6 ∧ w = nI (rK a) ∧ zoT 0 μ μ' ∧ Rep μ' 0 (upd (upd (upd (upd (upd a (34 + 104 * rK a) p) (34 + 104 * rK a + 1) g) (34 + 104 * rK a + 2) 0) (34 + 104 * rK a + 3) 0) 33 (nI (rK a + 1))))) := by
  have hR0 := h
  obtain ⟨⟨g0, g1, g2⟩, gS, gP, gA, gT, gD, gM⟩ := h
  obtain ⟨hn, hn2, hn12⟩ := h0
  generalize hkk : rK a = mk at hk hk6 gM ⊢
  have ht : (0 : Nat) < 4 := by omega
  have e0 : μ (5, 0, 0) 0 = nI (rN a) := g0.trans hn
  refine zCt.of "DyeTank" rfl (by decide +kernel) rfl (Nat.le_of_ble_eq_true rfl) (fun K hR => ?_)
  have v0 := zv_0
  have v1 := zv_1
  have v2 := zv_2
  have v3 := zv_3
  have v4 := zv_4
  have v5 := zv_5 0 ht
  have v12 := zv_12 0 ht
  refine z_ls (ls' := [zR (0, 0, 0), zI p, zI g, zN]) rfl ?_
  refine z_iload_n dX3_marker_0 rfl rfl ?_
  refine z_iconst (v := 0) dX3_marker_1 (by decide) ?_
  refine z_aload_n dX3_marker_2 rfl rfl ?_
  refine zg_X3_tank dX3_marker_3 tw_161 ?_
  refine z_cVi (c_lastPlace μ 0 ht) q_X2_lastPlace tw_392 dX3_marker_6 rfl rfl rfl (by omega) (Nat.le_of_ble_eq_true rfl) ?_
  rw [e0]
  refine z_cSi (c_within μ _ _ _) q_X3_within tw_181 dX3_marker_9 rfl rfl (by omega) (Nat.le_of_ble_eq_true rfl) ?_
  refine z_beq (tgt := 26) dX3_marker_12 (by decide) (fun h1 => ?_) (fun h1 => ?_)
  · refine z_bipush (v := -2) dX3_marker_26 (by decide) ?_
    refine z_iret hR dX3_marker_28 (⟨_, rfl, Or.inl ⟨fun q => h1 q.1, rfl, rfl⟩⟩)
  · refine z_iload_n dX3_marker_15 rfl rfl ?_
    refine z_iconst (v := 0) dX3_marker_16 (by decide) ?_
    refine z_sipush (v := 3599) dX3_marker_17 (by decide) ?_
    refine z_cSi (c_within μ _ _ _) q_X3_within tw_181 dX3_marker_20 rfl rfl (by omega) (Nat.le_of_ble_eq_true rfl) ?_
    refine z_bne (tgt := 29) dX3_marker_23 (by decide) (fun h2 => ?_) (fun h2 => ?_)
    · refine z_aload_n dX3_marker_29 rfl rfl ?_
      refine zg_X3_tank dX3_marker_30 tw_161 ?_
      refine zg_X2_markerCount dX3_marker_33 tw_75 ?_
      refine z_top ((show _ = nI mk from g2.trans hk)) ?_
      refine z_istS_n dX3_marker_36 rfl (by decide) rfl ?_
      refine z_iload_n dX3_marker_37 rfl rfl ?_
      refine z_bipush (v := 6) dX3_marker_38 (by decide) ?_
      refine z_icmp_lt (tgt := 46) dX3_marker_40 (by decide) (fun h3 => ?_) (fun h3 => ?_)
      · have h3 : mk < 6 := nlt (b := 6) h3
        have v13 := zv_13 0 ht mk h3
        refine z_aload_n dX3_marker_46 rfl rfl ?_
        refine zg_X3_tank dX3_marker_47 tw_161 ?_
        refine zg_X2_markers dX3_marker_50 tw_87 ?_
        refine z_iload_n dX3_marker_53 rfl rfl ?_
        refine z_ald12 dX3_marker_54 rfl h3 ?_
        refine z_iload_n dX3_marker_55 rfl rfl ?_
        refine z_iload_n dX3_marker_56 rfl rfl ?_
        refine z_cVv (c_putIn μ 0 mk ht h3 p g) q_X0_putIn tw_393 dX3_marker_57 rfl rfl rfl (by omega) (Nat.le_of_ble_eq_true rfl) (fun μ2 hh => ?_)
        obtain ⟨f, e2, f0, f1, f2, f3, f4⟩ := hh
        refine z_aload_n dX3_marker_60 rfl rfl ?_
        refine zg_X3_tank dX3_marker_61 tw_161 ?_
        refine z_iload_n dX3_marker_64 rfl rfl ?_
        refine z_iconst (v := 1) dX3_marker_65 (by decide) ?_
        refine z_iadd dX3_marker_66 ?_
        refine z_top ((nI_1 mk)) ?_
        refine zp_X2_markerCount dX3_marker_67 tw_75 ?_
        refine z_iload_n dX3_marker_70 rfl rfl ?_
        have up : ∀ k, k ≠ 33 → (k < 34 + 104 * mk ∨ 34 + 104 * mk + 4 ≤ k) → (upd (upd (upd (upd (upd a (34 + 104 * mk) p) (34 + 104 * mk + 1) g) (34 + 104 * mk + 2) 0) (34 + 104 * mk + 3) 0) 33 (nI (mk + 1))) k = a k := by
          intro k q1 q2
          unfold upd
          rw [if_neg q1, if_neg (by omega), if_neg (by omega), if_neg (by omega), if_neg (by omega)]
        have b33 : (upd (upd (upd (upd (upd a (34 + 104 * mk) p) (34 + 104 * mk + 1) g) (34 + 104 * mk + 2) 0) (34 + 104 * mk + 3) 0) 33 (nI (mk + 1))) 33 = nI (mk + 1) := if_pos rfl
        have bw : ∀ j, j < 4 → (upd (upd (upd (upd (upd a (34 + 104 * mk) p) (34 + 104 * mk + 1) g) (34 + 104 * mk + 2) 0) (34 + 104 * mk + 3) 0) 33 (nI (mk + 1))) (34 + 104 * mk + j) = (if j = 0 then p else if j = 1 then g else 0) := by
          intro j hj
          unfold upd
          rcases (show j = 0 ∨ j = 1 ∨ j = 2 ∨ j = 3 by omega) with e | e | e | e <;> subst e
          · rw [if_neg (by omega), if_neg (by omega), if_neg (by omega), if_neg (by omega), if_pos (by omega)]; rfl
          · rw [if_neg (by omega), if_neg (by omega), if_neg (by omega), if_pos rfl]; rfl
          · rw [if_neg (by omega), if_neg (by omega), if_pos rfl]; rfl
          · rw [if_neg (by omega), if_pos rfl]; rfl
        generalize (upd (upd (upd (upd (upd a (34 + 104 * mk) p) (34 + 104 * mk + 1) g) (34 + 104 * mk + 2) 0) (34 + 104 * mk + 3) 0) 33 (nI (mk + 1))) = b at hR up b33 bw
        refine z_iret hR dX3_marker_71 (⟨_, rfl, Or.inr (Or.inr ⟨⟨h1, h2⟩, h3, rfl, by rw [e2]; exact (zoT.rf.put 13 mk _).put 5 0 _, ?_⟩)⟩)
        have en : rN b = rN a := by unfold rN; rw [up 0 (by omega) (by omega)]
        have ek : rK b = mk + 1 := by unfold rK; rw [b33, nI_clamp (by omega)]
        rw [e2]
        unfold Rep
        rw [en, ek]
        refine ⟨⟨?_, ?_, ?_⟩, ?_, ?_, ?_, ?_, ?_, ?_⟩
        · rw [st_eq, up 0 (by omega) (by omega)]
          exact (if_neg (by decide)).trans (by rw [st_ne _ _ (by simp)]; exact g0)
        · rw [st_eq, up 1 (by omega) (by omega)]
          exact (if_neg (by decide)).trans (by rw [st_ne _ _ (by simp)]; exact g1)
        · rw [st_eq, b33]
          exact if_pos rfl
        · intro i hi
          rw [st_ne _ _ (by simp), st_ne _ _ (by simp)]
          exact (gS i hi).trans (up _ (by omega) (by omega)).symm
        · intro r hr
          rw [st_ne _ _ (by simp), st_ne _ _ (by simp)]
          exact (gP r hr).trans (up _ (by omega) (by omega)).symm
        · intro r hr
          rw [st_ne _ _ (by simp), st_ne _ _ (by simp)]
          exact (gA r hr).trans (up _ (by omega) (by omega)).symm
        · intro c hc
          rw [st_ne _ _ (by simp), st_ne _ _ (by simp), gT c hc]
          refine congrFun (congrArg allA ?_) _
          funext i
          exact (up _ (by omega) (by omega)).symm
        · intro c hc i hi
          rw [st_ne _ _ (by simp), st_ne _ _ (by simp)]
          exact (gD c hc i hi).trans (up _ (by omega) (by omega)).symm
        · intro m hm
          by_cases em : m = mk
          · subst em
            have ea : b (36 + 104 * m) = 0 := by
              rw [show 36 + 104 * m = 34 + 104 * m + 2 by omega]
              exact bw 2 (by omega)
            unfold RepM
            rw [st_ne _ _ (by simp), st_eq, f0, f1, f2, f3, f4, ea, show 34 + 104 * m = 34 + 104 * m + 0 from rfl, bw 0 (by omega), bw 1 (by omega), bw 3 (by omega)]
            exact ⟨rfl, rfl, rfl, rfl, rfl, fun k hk => absurd (show k < 0 from hk) (by omega)⟩
          · have := gM m (by omega)
            unfold RepM at this ⊢
            rw [st_ne _ _ (by simp), st_ne _ _ (by simp [em]), st_ne _ _ (by simp), st_ne _ _ (by simp), st_ne _ _ (by simp), st_ne _ _ (by simp), up _ (by omega) (by omega), up _ (by omega) (by omega), up _ (by omega) (by omega), up _ (by omega) (by omega)]
            obtain ⟨q0, q1, q2, q3, q4, q5⟩ := this
            refine ⟨q0, q1, q2, q3, q4, fun k hk2 => ?_⟩
            have h50 : kepN (a (36 + 104 * m)).toNatClampNeg ≤ 50 := by unfold kepN; split <;> omega
            rw [up _ (by omega) (by omega), up _ (by omega) (by omega)]
            exact q5 k hk2
      · have h3 : mk = 6 := by
          have := nnlt (b := 6) h3
          omega
        refine z_bipush (v := -4) dX3_marker_43 (by decide) ?_
        refine z_iret hR dX3_marker_45 (⟨_, rfl, Or.inr (Or.inl ⟨⟨h1, h2⟩, h3, rfl, rfl⟩)⟩)
    · refine z_bipush (v := -2) dX3_marker_26 (by decide) ?_
      refine z_iret hR dX3_marker_28 (⟨_, rfl, Or.inl ⟨fun q => h2 q.2, rfl, rfl⟩⟩)
