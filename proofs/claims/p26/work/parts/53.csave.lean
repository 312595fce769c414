/-! slots of the component -/
theorem Like_Rep {μ μ' : zM} {t u : Nat} {a : Nat → Int32} (h : Rep μ u a) (h5 : ∀ j, j < 3 → μ' (5, t, 0) j = μ (5, u, 0) j) (h6 : ∀ j, j < 7 → μ' (6, t, 0) j = μ (6, u, 0) j) (h7 : ∀ j, j < 12 → μ' (7, t, 0) j = μ (7, u, 0) j) (h8 : ∀ j, j < 12 → μ' (8, t, 0) j = μ (8, u, 0) j) (h9 : ∀ j, j < 3 → μ' (9, t, 0) j = μ (9, u, 0) j) (h11 : ∀ c, c < 3 → ∀ i, i < 576 → μ' (11, t, c) i = μ (11, u, c) i) (hM : ∀ m, m < rK a → (∀ j, j < 5 → μ' (13, t, m) j = μ (13, u, m) j) ∧ (∀ j, j < 50 → μ' (14, t, m) j = μ (14, u, m) j) ∧ (∀ j, j < 50 → μ' (15, t, m) j = μ (15, u, m) j)) : Rep μ' t a := by
  obtain ⟨⟨g0, g1, g2⟩, gS, gP, gA, gT, gD, gM⟩ := h
  refine ⟨⟨(h5 0 (by omega)).trans g0, (h5 1 (by omega)).trans g1, (h5 2 (by omega)).trans g2⟩, fun j hj => (h6 j hj).trans (gS j hj), fun j hj => (h7 j hj).trans (gP j hj), fun j hj => (h8 j hj).trans (gA j hj), fun j hj => (h9 j hj).trans (gT j hj), fun c hc i hi => (h11 c hc i hi).trans (gD c hc i hi), fun m hm => ?_⟩
  obtain ⟨w13, w14, w15⟩ := hM m hm
  obtain ⟨q0, q1, q2, q3, q4, q5⟩ := gM m hm
  refine ⟨(w13 0 (by omega)).trans q0, (w13 1 (by omega)).trans q1, (w13 2 (by omega)).trans q2, (w13 3 (by omega)).trans q3, (w13 4 (by omega)).trans q4, fun k hk => ?_⟩
  have h50 : kepN (a (36 + 104 * m)).toNatClampNeg ≤ 50 := by unfold kepN; split <;> omega
  exact ⟨(w14 k (by omega)).trans (q5 k hk).1, (w15 k (by omega)).trans (q5 k hk).2⟩
theorem x_save (μ : zM) (a : Nat → Int32) (h : Rep μ 0 a) (hk : a 33 = nI (rK a)) (hk6 : rK a ≤ 6) (x : Int32) : zCs yX3_save prog_1_method_25_code 2 (some .int) 3 [zR (0, 0, 0), zI x] μ (fun μ' w => (¬ (0 ≤ x ∧ x ≤ 1) ∧ w = -2 ∧ μ' = μ) ∨ ((0 ≤ x ∧ x ≤ 1) ∧ ∃ i : Nat, i < 2 ∧ x = nI i ∧ w = a 1 ∧ ∃ ν, zoT (2 + i) μ ν ∧ μ' = st ν (2, 0, 0) (upd (μ (2, 0, 0)) i 1) ∧ Rep ν (2 + i) a)) := by
  have ht : (0 : Nat) < 4 := by omega
  refine zCt.of "DyeTank" rfl (by decide +kernel) rfl (Nat.le_of_ble_eq_true rfl) (fun K hR => ?_)
  have v0 := zv_0
  have v1 := zv_1
  have v2 := zv_2
  have v3 := zv_3
  have v4 := zv_4
  have v5 := zv_5 0 ht
  refine z_ls (ls' := [zR (0, 0, 0), zI x]) rfl ?_
  refine z_iload_n dX3_save_0 rfl rfl ?_
  refine z_iconst (v := 0) dX3_save_1 (by decide) ?_
  refine z_iconst (v := 1) dX3_save_2 (by decide) ?_
  refine z_cSi (c_within μ _ _ _) q_X3_within tw_181 dX3_save_3 rfl rfl (by omega) (Nat.le_of_ble_eq_true rfl) ?_
  refine z_bne (tgt := 12) dX3_save_6 (by decide) (fun h1 => ?_) (fun h1 => ?_)
  · obtain ⟨i, hi, e⟩ : ∃ i : Nat, i < 2 ∧ x = nI i := (rngP (n := 2) (by omega) (by omega)).mp h1
    subst e
    have v52 := zv_5 (2 + i) (by omega)
    refine z_aload_n dX3_save_12 rfl rfl ?_
    refine zg_X3_slots dX3_save_13 tw_163 ?_
    refine z_iload_n dX3_save_16 rfl rfl ?_
    refine z_ald1 dX3_save_17 rfl hi ?_
    refine z_aload_n dX3_save_18 rfl rfl ?_
    refine zg_X3_tank dX3_save_19 tw_161 ?_
    refine z_cVv (c_tankLike μ (2 + i) 0 (rK a) (by omega) ht (by omega) (h.1.2.2.trans hk) hk6) q_X2_becomeLike tw_441 dX3_save_22 rfl rfl rfl (by omega) (Nat.le_of_ble_eq_true rfl) (fun μ2 hh => ?_)
    obtain ⟨o2, b5, b6, b7, b8, b9, b11, bM⟩ := hh
    have z2 : zoT (2 + i) μ μ2 := o2.zoT (by simp)
    refine z_aload_n dX3_save_25 rfl rfl ?_
    refine zg_X3_saved dX3_save_26 tw_164 ?_
    refine z_iload_n dX3_save_29 rfl rfl ?_
    refine z_iconst (v := 1) dX3_save_30 (by decide) ?_
    refine z_zast dX3_save_31 (fun _ _ => rfl) rfl hi rfl ?_
    refine z_aload_n dX3_save_32 rfl rfl ?_
    refine zg_X3_tank dX3_save_33 tw_161 ?_
    refine zg_X2_time dX3_save_36 tw_73 ?_
    refine z_iret hR dX3_save_39 (⟨_, rfl, Or.inr ⟨h1, i, hi, rfl, ?_, μ2, z2, ?_, Like_Rep h b5 b6 b7 b8 b9 b11 bM⟩⟩)
    · rw [st_ne _ _ (by simp), z2 (5, 0, 0) (Or.inl (by show 0 ≠ 2 + i; omega))]
      exact h.1.2.1
    · rw [z2 (2, 0, 0) (Or.inr (Or.inl (by decide)))]
  · refine z_bipush (v := -2) dX3_save_9 (by decide) ?_
    refine z_iret hR dX3_save_11 (⟨_, rfl, Or.inl ⟨h1, rfl, rfl⟩⟩)
theorem x_restore (μ : zM) (b : Nat → Nat → Int32) (h : ∀ i, i < 2 → ¬ μ (2, 0, 0) i = 0 → Rep μ (2 + i) (b i) ∧ b i 33 = nI (rK (b i)) ∧ rK (b i) ≤ 6) (x : Int32) : zCs yX3_restore prog_1_method_26_code 2 (some .int) 3 [zR (0, 0, 0), zI x] μ (fun μ' w => (¬ (0 ≤ x ∧ x ≤ 1) ∧ w = -2 ∧ μ' = μ) ∨ ((0 ≤ x ∧ x ≤ 1) ∧ ∃ i : Nat, i < 2 ∧ x = nI i ∧ ((μ (2, 0, 0) i = 0 ∧ w = -5 ∧ μ' = μ) ∨ (¬ μ (2, 0, 0) i = 0 ∧ w = b i 1 ∧ zoT 0 μ μ' ∧ Rep μ' 0 (b i))))) := by
  have ht : (0 : Nat) < 4 := by omega
  refine zCt.of "DyeTank" rfl (by decide +kernel) rfl (Nat.le_of_ble_eq_true rfl) (fun K hR => ?_)
  have v0 := zv_0
  have v1 := zv_1
  have v2 := zv_2
  have v3 := zv_3
  have v4 := zv_4
  have v5 := zv_5 0 ht
  refine z_ls (ls' := [zR (0, 0, 0), zI x]) rfl ?_
  refine z_iload_n dX3_restore_0 rfl rfl ?_
  refine z_iconst (v := 0) dX3_restore_1 (by decide) ?_
  refine z_iconst (v := 1) dX3_restore_2 (by decide) ?_
  refine z_cSi (c_within μ _ _ _) q_X3_within tw_181 dX3_restore_3 rfl rfl (by omega) (Nat.le_of_ble_eq_true rfl) ?_
  refine z_bne (tgt := 12) dX3_restore_6 (by decide) (fun h1 => ?_) (fun h1 => ?_)
  · obtain ⟨i, hi, e⟩ : ∃ i : Nat, i < 2 ∧ x = nI i := (rngP (n := 2) (by omega) (by omega)).mp h1
    subst e
    have v52 := zv_5 (2 + i) (by omega)
    refine z_aload_n dX3_restore_12 rfl rfl ?_
    refine zg_X3_saved dX3_restore_13 tw_164 ?_
    refine z_iload_n dX3_restore_16 rfl rfl ?_
    refine z_zald dX3_restore_17 (fun _ _ => rfl) rfl hi ?_
    refine z_if_ne (tgt := 24) dX3_restore_18 (by decide) (fun h2 => ?_) (fun h2 => ?_)
    · obtain ⟨hr, hk, hk6⟩ := h i hi h2
      refine z_aload_n dX3_restore_24 rfl rfl ?_
      refine zg_X3_tank dX3_restore_25 tw_161 ?_
      refine z_aload_n dX3_restore_28 rfl rfl ?_
      refine zg_X3_slots dX3_restore_29 tw_163 ?_
      refine z_iload_n dX3_restore_32 rfl rfl ?_
      refine z_ald1 dX3_restore_33 rfl hi ?_
      refine z_cVv (c_tankLike μ 0 (2 + i) (rK (b i)) ht (by omega) (by omega) (hr.1.2.2.trans hk) hk6) q_X2_becomeLike tw_441 dX3_restore_34 rfl rfl rfl (by omega) (Nat.le_of_ble_eq_true rfl) (fun μ2 hh => ?_)
      obtain ⟨o2, b5, b6, b7, b8, b9, b11, bM⟩ := hh
      have r2 := Like_Rep hr b5 b6 b7 b8 b9 b11 bM
      refine z_aload_n dX3_restore_37 rfl rfl ?_
      refine zg_X3_tank dX3_restore_38 tw_161 ?_
      refine zg_X2_time dX3_restore_41 tw_73 ?_
      refine z_iret hR dX3_restore_44 (⟨_, rfl, Or.inr ⟨h1, i, hi, rfl, Or.inr ⟨h2, r2.1.2.1, o2.zoT (by simp), r2⟩⟩⟩)
    · refine z_bipush (v := -5) dX3_restore_21 (by decide) ?_
      refine z_iret hR dX3_restore_23 (⟨_, rfl, Or.inr ⟨h1, i, hi, rfl, Or.inl ⟨h2, rfl, rfl⟩⟩⟩)
  · refine z_bipush (v := -2) dX3_restore_9 (by decide) ?_
    refine z_iret hR dX3_restore_11 (⟨_, rfl, Or.inl ⟨h1, rfl, rfl⟩⟩)
