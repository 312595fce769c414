/-! texts: one pure parser, as the reference goes; its first calls -/
def chr (p : Nat → Int32) (l i : Nat) : Int32 := if i < l then p i else 0
def numL (ch : Nat → Int32) (most : Int32) : Nat → Int32 → Nat → Int32 × Nat
  | 0, v, s => (v, s)
  | f + 1, v, s => if 0 < v ∧ (48 ≤ ch s ∧ ch s ≤ 57) ∧ 10 * v + ch s - 48 ≤ most then numL ch most f (10 * v + ch s - 48) (s + 1) else (v, s)
def mNum (ch : Nat → Int32) (lo most : Int32) (s : Nat) (w : Bool) : Int32 × Nat × Bool := if w = true ∨ ¬ (48 + (if 0 < lo then 1 else 0) ≤ ch s ∧ ch s ≤ 57) then (0, s, true) else ((numL ch most 61 (ch s - 48) (s + 1)).1, (numL ch most 61 (ch s - 48) (s + 1)).2, false)
def mNeed (ch : Nat → Int32) (c : Int32) (s : Nat) (w : Bool) : Nat × Bool := if w = true ∨ ¬ ch s = c then (s, true) else (s + 1, false)
def mOne (ch : Nat → Int32) (lo hi : Int32) (s : Nat) (w : Bool) : Nat × Bool := if w = true ∨ ¬ (lo ≤ ch s ∧ ch s ≤ hi) then (s, true) else (s + 1, false)
def PSt (μ : zM) (l s : Nat) (w : Bool) (k : Nat) : Prop := μ (20, 0, 0) 7 = nI l ∧ μ (20, 0, 0) 8 = nI s ∧ μ (20, 0, 0) 9 = zb (w = true) ∧ μ (20, 0, 0) 11 = nI k
theorem m_say (μ : zM) (l : Nat) (hl : μ (20, 0, 0) 7 = nI l) (hl60 : l ≤ 60) (x : Int32) : zCs yX4_say prog_6_method_55_code 2 (some .int) 2 [zR (20, 0, 0), zI x] μ (fun μ' w => (¬ (33 ≤ x ∧ x ≤ 126) ∧ w = -2 ∧ μ' = μ) ∨ ((33 ≤ x ∧ x ≤ 126) ∧ l = 60 ∧ w = -4 ∧ μ' = μ) ∨ ((33 ≤ x ∧ x ≤ 126) ∧ l < 60 ∧ w = nI (l + 1) ∧ μ' = st (st μ (27, 0, 0) (upd (μ (27, 0, 0)) l x)) (20, 0, 0) (upd (μ (20, 0, 0)) 7 (nI (l + 1))))) := by
  refine zCt.of "DyeTankModel" rfl (by decide +kernel) rfl (Nat.le_of_ble_eq_true rfl) (fun K hR => ?_)
  have v20 := zv_20
  have v21 := zv_21
  have v22 := zv_22
  have v23 := zv_23
  have v24 := zv_24
  have v25 := zv_25
  have v26 := zv_26
  have v27 := zv_27
  have v28 := zv_28
  refine z_ls (ls' := [zR (20, 0, 0), zI x]) rfl ?_
  refine z_iload_n dX4_say_0 rfl rfl ?_
  refine z_bipush (v := 33) dX4_say_1 (by decide) ?_
  refine z_bipush (v := 126) dX4_say_3 (by decide) ?_
  refine z_cSi (c_in μ _ _ _) q_X4_in tw_593 dX4_say_5 rfl rfl (by omega) (Nat.le_of_ble_eq_true rfl) ?_
  refine z_bne (tgt := 14) dX4_say_8 (by decide) (fun h => ?_) (fun h => ?_)
  · refine z_aload_n dX4_say_14 rfl rfl ?_
    refine zg_X4_padMany dX4_say_15 tw_559 ?_
    refine z_top ((show _ = nI l from hl)) ?_
    refine z_bipush (v := 60) dX4_say_18 (by decide) ?_
    refine z_icmp_ne (tgt := 26) dX4_say_20 (by decide) (fun h2 => ?_) (fun h2 => ?_)
    · have h3 : l < 60 := by
        have : ¬ l = 60 := fun e => h2 (congrArg nI e)
        omega
      refine z_aload_n dX4_say_26 rfl rfl ?_
      refine zg_X4_pad dX4_say_27 tw_558 ?_
      refine z_aload_n dX4_say_30 rfl rfl ?_
      refine zg_X4_padMany dX4_say_31 tw_559 ?_
      refine z_top ((show _ = nI l from hl)) ?_
      refine z_iload_n dX4_say_34 rfl rfl ?_
      refine z_iast dX4_say_35 (fun _ _ => rfl) rfl (show l < 60 from h3) ?_
      refine z_aload_n dX4_say_36 rfl rfl ?_
      refine z_dup dX4_say_37 rfl ?_
      refine zg_X4_padMany dX4_say_38 tw_559 ?_
      refine z_top ((show st μ (27, 0, 0) _ (20, 0, 0) 7 = nI l by rw [st_ne _ _ (by simp)]; exact hl)) ?_
      refine z_iconst (v := 1) dX4_say_41 (by decide) ?_
      refine z_iadd dX4_say_42 ?_
      refine z_top ((nI_1 l)) ?_
      refine zp_X4_padMany dX4_say_43 tw_559 ?_
      refine z_aload_n dX4_say_46 rfl rfl ?_
      refine zg_X4_padMany dX4_say_47 tw_559 ?_
      refine z_iret hR dX4_say_50 (⟨_, rfl, Or.inr (Or.inr ⟨h, h3, by rw [st_eq]; exact if_pos rfl, by rw [st_ne _ _ (by simp)]⟩)⟩)
    · refine z_bipush (v := -4) dX4_say_23 (by decide) ?_
      refine z_iret hR dX4_say_25 (⟨_, rfl, Or.inr (Or.inl ⟨h, (nI_eq (by omega) (by omega)).mp (show nI l = nI 60 from h2), rfl, rfl⟩)⟩)
  · refine z_bipush (v := -2) dX4_say_11 (by decide) ?_
    refine z_iret hR dX4_say_13 (⟨_, rfl, Or.inl ⟨h, rfl, rfl⟩⟩)
theorem m_wipe (μ : zM) : zCs yX4_wipe prog_6_method_56_code 2 (some .int) 1 [zR (20, 0, 0)] μ (fun μ' w => w = μ (20, 0, 0) 7 ∧ μ' = st μ (20, 0, 0) (upd (μ (20, 0, 0)) 7 0)) := by
  refine zCt.of "DyeTankModel" rfl (by decide +kernel) rfl (Nat.le_of_ble_eq_true rfl) (fun K hR => ?_)
  have v20 := zv_20
  have v21 := zv_21
  have v22 := zv_22
  have v23 := zv_23
  have v24 := zv_24
  have v25 := zv_25
  have v26 := zv_26
  have v27 := zv_27
  have v28 := zv_28
  refine z_ls (ls' := [zR (20, 0, 0), zN]) rfl ?_
  refine z_aload_n dX4_wipe_0 rfl rfl ?_
  refine zg_X4_padMany dX4_wipe_1 tw_559 ?_
  refine z_istS_n dX4_wipe_4 rfl (by decide) rfl ?_
  refine z_aload_n dX4_wipe_5 rfl rfl ?_
  refine z_iconst (v := 0) dX4_wipe_6 (by decide) ?_
  refine zp_X4_padMany dX4_wipe_7 tw_559 ?_
  refine z_iload_n dX4_wipe_10 rfl rfl ?_
  refine z_iret hR dX4_wipe_11 (⟨_, rfl, rfl, rfl⟩)
theorem m_next (μ : zM) {l s k : Nat} {w : Bool} (h : PSt μ l s w k) (hl : l ≤ 60) (hs : s ≤ 60) : zCi yX4_next prog_6_method_57_code 1 (some .int) 1 [zR (20, 0, 0)] μ (chr (μ (27, 0, 0)) l s) := by
  obtain ⟨h7, h8, h9, h11⟩ := h
  refine zCt.of "DyeTankModel" rfl (by decide +kernel) rfl (Nat.le_of_ble_eq_true rfl) (fun K hR => ?_)
  have v20 := zv_20
  have v21 := zv_21
  have v22 := zv_22
  have v23 := zv_23
  have v24 := zv_24
  have v25 := zv_25
  have v26 := zv_26
  have v27 := zv_27
  have v28 := zv_28
  refine z_ls (ls' := [zR (20, 0, 0)]) rfl ?_
  refine z_aload_n dX4_next_0 rfl rfl ?_
  refine zg_X4_spot dX4_next_1 tw_560 ?_
  refine z_top ((show _ = nI s from h8)) ?_
  refine z_aload_n dX4_next_4 rfl rfl ?_
  refine zg_X4_padMany dX4_next_5 tw_559 ?_
  refine z_top ((show _ = nI l from h7)) ?_
  refine z_icmp_ge (tgt := 23) dX4_next_8 (by decide) (fun hb => ?_) (fun hb => ?_)
  · have hb := nle hb
    refine z_iconst (v := 0) dX4_next_23 (by decide) ?_
    refine z_iret hR dX4_next_24 (⟨rfl, congrArg zI (if_neg (by omega)).symm⟩)
  · have hb := nnle hb
    refine z_aload_n dX4_next_11 rfl rfl ?_
    refine zg_X4_pad dX4_next_12 tw_558 ?_
    refine z_aload_n dX4_next_15 rfl rfl ?_
    refine zg_X4_spot dX4_next_16 tw_560 ?_
    refine z_top ((show _ = nI s from h8)) ?_
    refine z_iald dX4_next_19 (fun _ _ => rfl) rfl (show s < 60 by omega) ?_
    refine z_goto (tgt := 24) dX4_next_20 (by decide) ?_
    refine z_iret hR dX4_next_24 (⟨rfl, congrArg zI (if_pos hb).symm⟩)
theorem m_need (μ : zM) {l s k : Nat} {w : Bool} (h : PSt μ l s w k) (hl : l ≤ 60) (hs : s ≤ 60) (c : Int32) : zCv yX4_need prog_6_method_59_code 2 (none : Option Jvm.ClassFile.FieldType) 2 [zR (20, 0, 0), zI c] μ (fun μ' => zoff [(20, 0, 0)] μ μ' ∧ PSt μ' l (mNeed (chr (μ (27, 0, 0)) l) c s w).1 (mNeed (chr (μ (27, 0, 0)) l) c s w).2 k) := by
  have h' := h
  obtain ⟨h7, h8, h9, h11⟩ := h
  refine zCt.of "DyeTankModel" rfl (by decide +kernel) rfl (Nat.le_of_ble_eq_true rfl) (fun K hR => ?_)
  have v20 := zv_20
  have v21 := zv_21
  have v22 := zv_22
  have v23 := zv_23
  have v24 := zv_24
  have v25 := zv_25
  have v26 := zv_26
  have v27 := zv_27
  have v28 := zv_28
  have wrong : (w = true ∨ ¬ chr (μ (27, 0, 0)) l s = c) → Z K 2 "DyeTankModel" prog_6_method_59_code 2 16 [zR (20, 0, 0), zI c] [zR (20, 0, 0)] μ := by
    intro hw
    have e : mNeed (chr (μ (27, 0, 0)) l) c s w = (s, true) := if_pos hw
    rw [e] at hR
    refine z_iconst (v := 1) dX4_need_16 (by decide) ?_
    refine z_goto (tgt := 21) dX4_need_17 (by decide) ?_
    refine zp_X4_isWrong dX4_need_21 tw_561 rfl rfl ?_
    refine z_aload_n dX4_need_24 rfl rfl ?_
    refine z_dup dX4_need_25 rfl ?_
    refine zg_X4_spot dX4_need_26 tw_560 ?_
    refine z_aload_n dX4_need_29 rfl rfl ?_
    refine zg_X4_isWrong dX4_need_30 tw_561 ?_
    rw [st_eq]
    refine z_top ((show upd (μ (20, 0, 0)) 9 1 9 = zb (true = true) from if_pos rfl)) ?_
    refine z_if_eq (tgt := 40) dX4_need_33 (by decide) (fun h9 => absurd h9 (by decide)) (fun _ => ?_)
    refine z_iconst (v := 0) dX4_need_36 (by decide) ?_
    refine z_goto (tgt := 41) dX4_need_37 (by decide) ?_
    refine z_iadd dX4_need_41 ?_
    refine zp_X4_spot dX4_need_42 tw_560 ?_
    refine z_vret hR dX4_need_45 (⟨rfl, (zoff.rf.put (by simp) _).put (by simp) _, ?_⟩)
    rw [PSt, st_st, st_eq]
    refine ⟨h7, ?_, rfl, h11⟩
    exact (Int32.add_zero _).trans h8
  refine z_ls (ls' := [zR (20, 0, 0), zI c]) rfl ?_
  refine z_aload_n dX4_need_0 rfl rfl ?_
  refine z_aload_n dX4_need_1 rfl rfl ?_
  refine zg_X4_isWrong dX4_need_2 tw_561 ?_
  refine z_top ((show _ = zb (w = true) from h9)) ?_
  refine z_bne (tgt := 16) dX4_need_5 (by decide) (fun hw => ?_) (fun hw => ?_)
  · exact wrong (Or.inl hw)
  · refine z_aload_n dX4_need_8 rfl rfl ?_
    refine z_cVi (m_next μ h' hl hs) q_X4_next tw_817 dX4_need_9 rfl rfl rfl (by omega) (Nat.le_of_ble_eq_true rfl) ?_
    refine z_iload_n dX4_need_12 rfl rfl ?_
    refine z_icmp_eq (tgt := 20) dX4_need_13 (by decide) (fun hc => ?_) (fun hc => ?_)
    · have e : mNeed (chr (μ (27, 0, 0)) l) c s w = (s + 1, false) := if_neg (fun q => q.elim hw (fun q => q hc))
      rw [e] at hR
      refine z_iconst (v := 0) dX4_need_20 (by decide) ?_
      refine zp_X4_isWrong dX4_need_21 tw_561 rfl rfl ?_
      refine z_aload_n dX4_need_24 rfl rfl ?_
      refine z_dup dX4_need_25 rfl ?_
      refine zg_X4_spot dX4_need_26 tw_560 ?_
      refine z_aload_n dX4_need_29 rfl rfl ?_
      refine zg_X4_isWrong dX4_need_30 tw_561 ?_
      rw [st_eq]
      refine z_top ((show upd (μ (20, 0, 0)) 9 0 9 = zb (false = true) from if_pos rfl)) ?_
      refine z_if_eq (tgt := 40) dX4_need_33 (by decide) (fun _ => ?_) (fun h9 => absurd (by decide) h9)
      refine z_iconst (v := 1) dX4_need_40 (by decide) ?_
      refine z_iadd dX4_need_41 ?_
      refine zp_X4_spot dX4_need_42 tw_560 ?_
      refine z_vret hR dX4_need_45 (⟨rfl, (zoff.rf.put (by simp) _).put (by simp) _, ?_⟩)
      rw [PSt, st_st, st_eq]
      refine ⟨h7, ?_, rfl, h11⟩
      show μ (20, 0, 0) 8 + 1 = nI (s + 1)
      rw [h8]
      exact nI_1 s
    · exact wrong (Or.inr hc)
theorem m_takeOne (μ : zM) {l s k : Nat} {w : Bool} (h : PSt μ l s w k) (hl : l ≤ 60) (hs : s ≤ 60) (lo hi : Int32) : zCs yX4_takeOne prog_6_method_60_code 4 (some .int) 2 [zR (20, 0, 0), zI lo, zI hi] μ (fun μ' r => r = chr (μ (27, 0, 0)) l s ∧ zoff [(20, 0, 0)] μ μ' ∧ PSt μ' l (mOne (chr (μ (27, 0, 0)) l) lo hi s w).1 (mOne (chr (μ (27, 0, 0)) l) lo hi s w).2 k) := by
  have h' := h
  obtain ⟨h7, h8, h9, h11⟩ := h
  refine zCt.of "DyeTankModel" rfl (by decide +kernel) rfl (Nat.le_of_ble_eq_true rfl) (fun K hR => ?_)
  have v20 := zv_20
  have v21 := zv_21
  have v22 := zv_22
  have v23 := zv_23
  have v24 := zv_24
  have v25 := zv_25
  have v26 := zv_26
  have v27 := zv_27
  have v28 := zv_28
  have wrong : (w = true ∨ ¬ (lo ≤ chr (μ (27, 0, 0)) l s ∧ chr (μ (27, 0, 0)) l s ≤ hi)) → Z K 2 "DyeTankModel" prog_6_method_60_code 4 20 [zR (20, 0, 0), zI lo, zI hi, zN] [zR (20, 0, 0)] μ := by
    intro hw
    have e : mOne (chr (μ (27, 0, 0)) l) lo hi s w = (s, true) := if_pos hw
    rw [e] at hR
    have p1 : PSt (st μ (20, 0, 0) (upd (μ (20, 0, 0)) 9 1)) l s true k := by
      rw [PSt, st_eq]
      exact ⟨h7, h8, rfl, h11⟩
    refine z_iconst (v := 1) dX4_takeOne_20 (by decide) ?_
    refine z_goto (tgt := 25) dX4_takeOne_21 (by decide) ?_
    refine zp_X4_isWrong dX4_takeOne_25 tw_561 rfl rfl ?_
    refine z_aload_n dX4_takeOne_28 rfl rfl ?_
    refine z_cVi (m_next _ p1 hl hs) q_X4_next tw_817 dX4_takeOne_29 rfl rfl rfl (by omega) (Nat.le_of_ble_eq_true rfl) ?_
    rw [st_ne _ _ (by simp)]
    refine z_istS_n dX4_takeOne_32 rfl (by decide) rfl ?_
    refine z_aload_n dX4_takeOne_33 rfl rfl ?_
    refine z_dup dX4_takeOne_34 rfl ?_
    refine zg_X4_spot dX4_takeOne_35 tw_560 ?_
    refine z_aload_n dX4_takeOne_38 rfl rfl ?_
    refine zg_X4_isWrong dX4_takeOne_39 tw_561 ?_
    rw [st_eq]
    refine z_top ((show upd (μ (20, 0, 0)) 9 1 9 = zb (true = true) from if_pos rfl)) ?_
    refine z_if_eq (tgt := 49) dX4_takeOne_42 (by decide) (fun h9 => absurd h9 (by decide)) (fun _ => ?_)
    refine z_iconst (v := 0) dX4_takeOne_45 (by decide) ?_
    refine z_goto (tgt := 50) dX4_takeOne_46 (by decide) ?_
    refine z_iadd dX4_takeOne_50 ?_
    refine zp_X4_spot dX4_takeOne_51 tw_560 ?_
    refine z_iload_n dX4_takeOne_54 rfl rfl ?_
    refine z_iret hR dX4_takeOne_55 (⟨_, rfl, rfl, (zoff.rf.put (by simp) _).put (by simp) _, ?_⟩)
    rw [PSt, st_st, st_eq]
    refine ⟨h7, ?_, rfl, h11⟩
    exact (Int32.add_zero _).trans h8
  refine z_ls (ls' := [zR (20, 0, 0), zI lo, zI hi, zN]) rfl ?_
  refine z_aload_n dX4_takeOne_0 rfl rfl ?_
  refine z_aload_n dX4_takeOne_1 rfl rfl ?_
  refine zg_X4_isWrong dX4_takeOne_2 tw_561 ?_
  refine z_top ((show _ = zb (w = true) from h9)) ?_
  refine z_bne (tgt := 20) dX4_takeOne_5 (by decide) (fun hw => ?_) (fun hw => ?_)
  · exact wrong (Or.inl hw)
  · refine z_aload_n dX4_takeOne_8 rfl rfl ?_
    refine z_cVi (m_next μ h' hl hs) q_X4_next tw_817 dX4_takeOne_9 rfl rfl rfl (by omega) (Nat.le_of_ble_eq_true rfl) ?_
    refine z_iload_n dX4_takeOne_12 rfl rfl ?_
    refine z_iload_n dX4_takeOne_13 rfl rfl ?_
    refine z_cSi (c_in μ _ _ _) q_X4_in tw_593 dX4_takeOne_14 rfl rfl (by omega) (Nat.le_of_ble_eq_true rfl) ?_
    refine z_bne (tgt := 24) dX4_takeOne_17 (by decide) (fun hc => ?_) (fun hc => ?_)
    · have e : mOne (chr (μ (27, 0, 0)) l) lo hi s w = (s + 1, false) := if_neg (fun q => q.elim hw (fun q => q hc))
      rw [e] at hR
      have p1 : PSt (st μ (20, 0, 0) (upd (μ (20, 0, 0)) 9 0)) l s false k := by
        rw [PSt, st_eq]
        exact ⟨h7, h8, rfl, h11⟩
      refine z_iconst (v := 0) dX4_takeOne_24 (by decide) ?_
      refine zp_X4_isWrong dX4_takeOne_25 tw_561 rfl rfl ?_
      refine z_aload_n dX4_takeOne_28 rfl rfl ?_
      refine z_cVi (m_next _ p1 hl hs) q_X4_next tw_817 dX4_takeOne_29 rfl rfl rfl (by omega) (Nat.le_of_ble_eq_true rfl) ?_
      rw [st_ne _ _ (by simp)]
      refine z_istS_n dX4_takeOne_32 rfl (by decide) rfl ?_
      refine z_aload_n dX4_takeOne_33 rfl rfl ?_
      refine z_dup dX4_takeOne_34 rfl ?_
      refine zg_X4_spot dX4_takeOne_35 tw_560 ?_
      refine z_aload_n dX4_takeOne_38 rfl rfl ?_
      refine zg_X4_isWrong dX4_takeOne_39 tw_561 ?_
      rw [st_eq]
      refine z_top ((show upd (μ (20, 0, 0)) 9 0 9 = zb (false = true) from if_pos rfl)) ?_
      refine z_if_eq (tgt := 49) dX4_takeOne_42 (by decide) (fun _ => ?_) (fun h9 => absurd (by decide) h9)
      refine z_iconst (v := 1) dX4_takeOne_49 (by decide) ?_
      refine z_iadd dX4_takeOne_50 ?_
      refine zp_X4_spot dX4_takeOne_51 tw_560 ?_
      refine z_iload_n dX4_takeOne_54 rfl rfl ?_
      refine z_iret hR dX4_takeOne_55 (⟨_, rfl, rfl, (zoff.rf.put (by simp) _).put (by simp) _, ?_⟩)
      rw [PSt, st_st, st_eq]
      refine ⟨h7, ?_, rfl, h11⟩
      show μ (20, 0, 0) 8 + 1 = nI (s + 1)
      rw [h8]
      exact nI_1 s
    · exact wrong (Or.inr hc)
theorem chr_lt {p : Nat → Int32} {l s : Nat} (h : 48 ≤ chr p l s) : s < l := by
  by_cases q : s < l
  · exact q
  · unfold chr at h
    rw [if_neg q] at h
    exact absurd h (by decide)
theorem m_takeNumber (μ : zM) {l s k : Nat} {w : Bool} (h : PSt μ l s w k) (hl : l ≤ 60) (hs : s ≤ 60) (lo hi : Int32) : zCs yX4_takeNumber prog_6_method_58_code 6 (some .int) 2 [zR (20, 0, 0), zI lo, zI hi] μ (fun μ' r => r = (mNum (chr (μ (27, 0, 0)) l) lo hi s w).1 ∧ zoff [(20, 0, 0)] μ μ' ∧ PSt μ' l (mNum (chr (μ (27, 0, 0)) l) lo hi s w).2.1 (mNum (chr (μ (27, 0, 0)) l) lo hi s w).2.2 k) := by
  refine zCt.of "DyeTankModel" rfl (by decide +kernel) rfl (Nat.le_of_ble_eq_true rfl) (fun K hR => ?_)
  have v20 := zv_20
  have v21 := zv_21
  have v22 := zv_22
  have v23 := zv_23
  have v24 := zv_24
  have v25 := zv_25
  have v26 := zv_26
  have v27 := zv_27
  have v28 := zv_28
  generalize hch : chr (μ (27, 0, 0)) l = ch at hR ⊢
  have close : ∀ (q v m : Int32) (s' : Nat) (b : Bool) (μ' : zM), zoff [(20, 0, 0)] μ μ' → PSt μ' l s' b k → mNum ch lo hi s w = (v, s', b) → Z K 2 "DyeTankModel" prog_6_method_58_code 6 135 [zR (20, 0, 0), zI lo, zI hi, zI q, zI v, zI m] [] μ' := by
    intro q v m s' b μ' ho hP hM
    refine z_iload dX4_takeNumber_135 rfl ?_
    refine z_iret hR dX4_takeNumber_137 (⟨_, rfl, by rw [hM], ho, by rw [hM]; exact hP⟩)
  have loop : ∀ (f : Nat) (q v : Int32) (s' : Nat) (μ' : zM), 60 < s' + f → s' < l → zoff [(20, 0, 0)] μ μ' → PSt μ' l s' false k → mNum ch lo hi s w = ((numL ch hi f (10 * v + ch s' - 48) (s' + 1)).1, (numL ch hi f (10 * v + ch s' - 48) (s' + 1)).2, false) → Z K 2 "DyeTankModel" prog_6_method_58_code 6 64 [zR (20, 0, 0), zI lo, zI hi, zI q, zI v, zI 1] [] μ' := by
    intro f
    induction f with
    | zero => intro q v s' μ' h1 h2; omega
    | succ f ih =>
      intro q v s' μ' h1 h2 ho hP hM
      have hP' := hP
      obtain ⟨h7, h8, h9, h11⟩ := hP
      have e27 : μ' (27, 0, 0) = μ (27, 0, 0) := ho.at (27, 0, 0)
      refine z_bipush (v := 10) dX4_takeNumber_64 (by decide) ?_
      refine z_iload dX4_takeNumber_66 rfl ?_
      refine z_imul dX4_takeNumber_68 ?_
      refine z_aload_n dX4_takeNumber_69 rfl rfl ?_
      refine z_cVi (m_next μ' hP' hl (by omega)) q_X4_next tw_817 dX4_takeNumber_70 rfl rfl rfl (by omega) (Nat.le_of_ble_eq_true rfl) ?_
      rw [e27, hch]
      refine z_iadd dX4_takeNumber_73 ?_
      refine z_bipush (v := 48) dX4_takeNumber_74 (by decide) ?_
      refine z_isub dX4_takeNumber_76 ?_
      refine z_istS dX4_takeNumber_77 (by decide) rfl ?_
      refine z_aload_n dX4_takeNumber_79 rfl rfl ?_
      refine z_dup dX4_takeNumber_80 rfl ?_
      refine zg_X4_spot dX4_takeNumber_81 tw_560 ?_
      refine z_top ((show _ = nI s' from h8)) ?_
      refine z_iconst (v := 1) dX4_takeNumber_84 (by decide) ?_
      refine z_iadd dX4_takeNumber_85 ?_
      refine z_top ((nI_1 s')) ?_
      generalize hv1 : 10 * v + ch s' - 48 = v1 at hM ⊢
      have p2 : PSt (st μ' (20, 0, 0) (upd (μ' (20, 0, 0)) 8 (nI (s' + 1)))) l (s' + 1) false k := by
        rw [PSt, st_eq]
        exact ⟨h7, rfl, h9, h11⟩
      have o2 : zoff [(20, 0, 0)] μ (st μ' (20, 0, 0) (upd (μ' (20, 0, 0)) 8 (nI (s' + 1)))) := ho.put (by simp) _
      have d27 : (st μ' (20, 0, 0) (upd (μ' (20, 0, 0)) 8 (nI (s' + 1)))) (27, 0, 0) = μ (27, 0, 0) := o2.at (27, 0, 0)
      have stop : ¬ (0 < v1 ∧ (48 ≤ ch (s' + 1) ∧ ch (s' + 1) ≤ 57) ∧ 10 * v1 + ch (s' + 1) - 48 ≤ hi) → Z K 2 "DyeTankModel" prog_6_method_58_code 6 129 [zR (20, 0, 0), zI lo, zI hi, zI q, zI v1, zI 1] [] (st μ' (20, 0, 0) (upd (μ' (20, 0, 0)) 8 (nI (s' + 1)))) := by
        intro hn
        refine z_iconst (v := 0) dX4_takeNumber_129 (by decide) ?_
        refine z_istS dX4_takeNumber_130 (by decide) rfl ?_
        refine z_goto (tgt := 59) dX4_takeNumber_132 (by decide) ?_
        refine z_iload dX4_takeNumber_59 rfl ?_
        refine z_if_eq (tgt := 135) dX4_takeNumber_61 (by decide) (fun _ => ?_) (fun h9 => absurd (rfl) h9)
        refine close q v1 0 (s' + 1) false _ o2 p2 ?_
        have eN : numL ch hi (f + 1) v1 (s' + 1) = (v1, s' + 1) := if_neg hn
        rw [hM, eN]
      refine zp_X4_spot dX4_takeNumber_86 tw_560 ?_
      refine z_iload dX4_takeNumber_89 rfl ?_
      refine z_if_le (tgt := 129) dX4_takeNumber_91 (by decide) (fun h3 => ?_) (fun h3 => ?_)
      · exact stop (fun q => absurd q.1 (Int32.not_lt.mpr h3))
      · refine z_aload_n dX4_takeNumber_94 rfl rfl ?_
        refine z_cVi (m_next _ p2 hl (by omega)) q_X4_next tw_817 dX4_takeNumber_95 rfl rfl rfl (by omega) (Nat.le_of_ble_eq_true rfl) ?_
        refine z_bipush (v := 48) dX4_takeNumber_98 (by decide) ?_
        refine z_bipush (v := 57) dX4_takeNumber_100 (by decide) ?_
        refine z_cSi (c_in _ _ _ _) q_X4_in tw_593 dX4_takeNumber_102 rfl rfl (by omega) (Nat.le_of_ble_eq_true rfl) ?_
        rw [d27, hch]
        refine z_beq (tgt := 129) dX4_takeNumber_105 (by decide) (fun h4 => ?_) (fun h4 => ?_)
        · exact stop (fun q => h4 q.2.1)
        · refine z_bipush (v := 10) dX4_takeNumber_108 (by decide) ?_
          refine z_iload dX4_takeNumber_110 rfl ?_
          refine z_imul dX4_takeNumber_112 ?_
          refine z_aload_n dX4_takeNumber_113 rfl rfl ?_
          refine z_cVi (m_next _ p2 hl (by omega)) q_X4_next tw_817 dX4_takeNumber_114 rfl rfl rfl (by omega) (Nat.le_of_ble_eq_true rfl) ?_
          rw [d27, hch]
          refine z_iadd dX4_takeNumber_117 ?_
          refine z_bipush (v := 48) dX4_takeNumber_118 (by decide) ?_
          refine z_isub dX4_takeNumber_120 ?_
          refine z_iload_n dX4_takeNumber_121 rfl rfl ?_
          refine z_icmp_gt (tgt := 129) dX4_takeNumber_122 (by decide) (fun h5 => ?_) (fun h5 => ?_)
          · exact stop (fun q => absurd q.2.2 (Int32.not_le.mpr h5))
          · have hc : 0 < v1 ∧ (48 ≤ ch (s' + 1) ∧ ch (s' + 1) ≤ 57) ∧ 10 * v1 + ch (s' + 1) - 48 ≤ hi := ⟨Int32.not_le.mp h3, h4, Int32.not_lt.mp h5⟩
            refine z_iconst (v := 1) dX4_takeNumber_125 (by decide) ?_
            refine z_goto (tgt := 130) dX4_takeNumber_126 (by decide) ?_
            refine z_istS dX4_takeNumber_130 (by decide) rfl ?_
            refine z_goto (tgt := 59) dX4_takeNumber_132 (by decide) ?_
            refine z_iload dX4_takeNumber_59 rfl ?_
            refine z_if_eq (tgt := 135) dX4_takeNumber_61 (by decide) (fun h9 => absurd h9 (by decide)) (fun _ => ?_)
            refine ih q v1 (s' + 1) _ (by omega) (chr_lt (by rw [hch]; exact h4.1)) o2 p2 ?_
            have eN : numL ch hi (f + 1) v1 (s' + 1) = numL ch hi f (10 * v1 + ch (s' + 1) - 48) (s' + 1 + 1) := if_pos hc
            rw [hM, eN]
  obtain ⟨h7, h8, h9, h11⟩ := h
  have wrong : ∀ q : Int32, (w = true ∨ ¬ (48 + (if 0 < lo then 1 else 0) ≤ ch s ∧ ch s ≤ 57)) → Z K 2 "DyeTankModel" prog_6_method_58_code 6 34 [zR (20, 0, 0), zI lo, zI hi, zI q, zN, zN] [zR (20, 0, 0)] μ := by
    intro q hw
    refine z_iconst (v := 1) dX4_takeNumber_34 (by decide) ?_
    refine z_goto (tgt := 39) dX4_takeNumber_35 (by decide) ?_
    refine zp_X4_isWrong dX4_takeNumber_39 tw_561 rfl rfl ?_
    refine z_iconst (v := 0) dX4_takeNumber_42 (by decide) ?_
    refine z_istS dX4_takeNumber_43 (by decide) rfl ?_
    refine z_aload_n dX4_takeNumber_45 rfl rfl ?_
    refine zg_X4_isWrong dX4_takeNumber_46 tw_561 ?_
    rw [st_eq]
    refine z_top ((show upd (μ (20, 0, 0)) 9 1 9 = zb (true = true) from if_pos rfl)) ?_
    refine z_if_ne (tgt := 56) dX4_takeNumber_49 (by decide) (fun _ => ?_) (fun h9 => absurd h9 (by decide))
    refine z_iconst (v := 0) dX4_takeNumber_56 (by decide) ?_
    refine z_istS dX4_takeNumber_57 (by decide) rfl ?_
    refine z_iload dX4_takeNumber_59 rfl ?_
    refine z_if_eq (tgt := 135) dX4_takeNumber_61 (by decide) (fun _ => ?_) (fun h9 => absurd (rfl) h9)
    refine close q 0 0 s true _ (zoff.rf.put (by simp) _) ?_ (if_pos hw)
    rw [PSt, st_eq]
    exact ⟨h7, h8, rfl, h11⟩
  have main : ∀ q : Int32, q = 48 + (if 0 < lo then 1 else 0) → Z K 2 "DyeTankModel" prog_6_method_58_code 6 13 [zR (20, 0, 0), zI lo, zI hi, zI q, zN, zN] [] μ := by
    intro q hq
    refine z_aload_n dX4_takeNumber_13 rfl rfl ?_
    refine z_aload_n dX4_takeNumber_14 rfl rfl ?_
    refine zg_X4_isWrong dX4_takeNumber_15 tw_561 ?_
    refine z_top ((show _ = zb (w = true) from h9)) ?_
    refine z_bne (tgt := 34) dX4_takeNumber_18 (by decide) (fun hw => ?_) (fun hw => ?_)
    · exact wrong q (Or.inl hw)
    · refine z_aload_n dX4_takeNumber_21 rfl rfl ?_
      refine z_cVi (m_next μ ⟨h7, h8, h9, h11⟩ hl hs) q_X4_next tw_817 dX4_takeNumber_22 rfl rfl rfl (by omega) (Nat.le_of_ble_eq_true rfl) ?_
      refine z_iload_n dX4_takeNumber_25 rfl rfl ?_
      refine z_bipush (v := 57) dX4_takeNumber_26 (by decide) ?_
      refine z_cSi (c_in μ _ _ _) q_X4_in tw_593 dX4_takeNumber_28 rfl rfl (by omega) (Nat.le_of_ble_eq_true rfl) ?_
      rw [hch]
      refine z_bne (tgt := 38) dX4_takeNumber_31 (by decide) (fun hc => ?_) (fun hc => ?_)
      · have hc2 := hc
        rw [hq] at hc2
        have hlt : s < l := chr_lt (p := μ (27, 0, 0)) (by rw [hch]; exact Int32.le_trans (by rw [hq]; split <;> decide) hc.1)
        refine z_iconst (v := 0) dX4_takeNumber_38 (by decide) ?_
        refine zp_X4_isWrong dX4_takeNumber_39 tw_561 rfl rfl ?_
        refine z_iconst (v := 0) dX4_takeNumber_42 (by decide) ?_
        refine z_istS dX4_takeNumber_43 (by decide) rfl ?_
        refine z_aload_n dX4_takeNumber_45 rfl rfl ?_
        refine zg_X4_isWrong dX4_takeNumber_46 tw_561 ?_
        rw [st_eq]
        refine z_top ((show upd (μ (20, 0, 0)) 9 0 9 = zb (false = true) from if_pos rfl)) ?_
        refine z_if_ne (tgt := 56) dX4_takeNumber_49 (by decide) (fun h9 => absurd h9 (by decide)) (fun _ => ?_)
        refine z_iconst (v := 1) dX4_takeNumber_52 (by decide) ?_
        refine z_goto (tgt := 57) dX4_takeNumber_53 (by decide) ?_
        refine z_istS dX4_takeNumber_57 (by decide) rfl ?_
        refine z_iload dX4_takeNumber_59 rfl ?_
        refine z_if_eq (tgt := 135) dX4_takeNumber_61 (by decide) (fun h9 => absurd h9 (by decide)) (fun _ => ?_)
        refine loop 61 q 0 s _ (by omega) hlt (zoff.rf.put (by simp) _) ?_ ?_
        · rw [PSt, st_eq]
          exact ⟨h7, h8, rfl, h11⟩
        · have e0 : 10 * (0 : Int32) + ch s - 48 = ch s - 48 := by rw [show (10 : Int32) * 0 = 0 by decide, Int32.zero_add]
          rw [e0]
          exact if_neg (fun q => q.elim hw (fun q => q hc2))
      · rw [hq] at hc
        exact wrong q (Or.inr hc)
  refine z_ls (ls' := [zR (20, 0, 0), zI lo, zI hi, zN, zN, zN]) rfl ?_
  refine z_bipush (v := 48) dX4_takeNumber_0 (by decide) ?_
  refine z_iload_n dX4_takeNumber_2 rfl rfl ?_
  refine z_if_le (tgt := 10) dX4_takeNumber_3 (by decide) (fun h0 => ?_) (fun h0 => ?_)
  · refine z_iconst (v := 0) dX4_takeNumber_10 (by decide) ?_
    refine z_iadd dX4_takeNumber_11 ?_
    refine z_istS_n dX4_takeNumber_12 rfl (by decide) rfl ?_
    exact main _ (by rw [if_neg (Int32.not_lt.mpr h0)])
  · refine z_iconst (v := 1) dX4_takeNumber_6 (by decide) ?_
    refine z_goto (tgt := 11) dX4_takeNumber_7 (by decide) ?_
    refine z_iadd dX4_takeNumber_11 ?_
    refine z_istS_n dX4_takeNumber_12 rfl (by decide) rfl ?_
    exact main _ (by rw [if_pos (Int32.not_le.mp h0)])
