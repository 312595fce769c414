/-! the pad of the component: signs, numbers -/
def PD (μ : zM) (l s : Nat) : Prop := μ (3, 0, 0) 0 = nI l ∧ μ (3, 0, 0) 1 = nI s ∧ ∀ i, i < 60 → ∃ q, q < 65536 ∧ μ (4, 0, 0) i = nI q
theorem chr_ex {p : Nat → Int32} {l s : Nat} (hl : l ≤ 60) (h : ∀ i, i < 60 → ∃ q, q < 65536 ∧ p i = nI q) : ∃ q, q < 65536 ∧ chr p l s = nI q := by
  unfold chr
  by_cases hs : s < l
  · rw [if_pos hs]
    exact h s (by omega)
  · rw [if_neg hs]
    exact ⟨0, by omega, rfl⟩
theorem c_character (μ : zM) {l s : Nat} (h : PD μ l s) (hl : l ≤ 60) (hs : s ≤ 60) : zCi yX1_character prog_3_method_14_code 1 (some .char) 1 [zR (3, 0, 0)] μ (chr (μ (4, 0, 0)) l s) := by
  obtain ⟨h0, h1, hc⟩ := h
  obtain ⟨q, hq, eq⟩ := chr_ex (s := s) hl hc
  refine zCt.of "DyeTank$Pad" rfl (by decide +kernel) rfl (Nat.le_of_ble_eq_true rfl) (fun K hR => ?_)
  have v0 := zv_0
  have v1 := zv_1
  have v2 := zv_2
  have v3 := zv_3
  have v4 := zv_4
  refine z_ls (ls' := [zR (3, 0, 0)]) rfl ?_
  refine z_aload_n dX1_character_0 rfl rfl ?_
  refine zg_X1_at dX1_character_1 tw_126 ?_
  refine z_top ((show _ = nI s from h1)) ?_
  refine z_if_lt (tgt := 39) dX1_character_4 (by decide) (fun h9 => absurd h9 (Int32.not_lt.mpr (nI_pos' (by omega)))) (fun _ => ?_)
  refine z_aload_n dX1_character_7 rfl rfl ?_
  refine zg_X1_at dX1_character_8 tw_126 ?_
  refine z_top ((show _ = nI s from h1)) ?_
  refine z_aload_n dX1_character_11 rfl rfl ?_
  refine zg_X1_length dX1_character_12 tw_124 ?_
  refine z_top ((show _ = nI l from h0)) ?_
  refine z_icmp_ge (tgt := 39) dX1_character_15 (by decide) (fun hb => ?_) (fun hb => ?_)
  · have hb := nle hb
    refine z_iconst (v := 0) dX1_character_39 (by decide) ?_
    refine z_zret hR dX1_character_40 (pk_charN (q := 0) (by omega)).1 ⟨rfl, congrArg zI (if_neg (by omega)).symm⟩
  · have hb := nnle hb
    refine z_aload_n dX1_character_18 rfl rfl ?_
    refine zg_X1_at dX1_character_19 tw_126 ?_
    refine z_top ((show _ = nI s from h1)) ?_
    refine z_bipush (v := 60) dX1_character_22 (by decide) ?_
    refine z_icmp_ge (tgt := 39) dX1_character_24 (by decide) (fun h9 => absurd h9 (fun h9 => absurd (nle (a := 60) h9) (by omega))) (fun _ => ?_)
    refine z_aload_n dX1_character_27 rfl rfl ?_
    refine zg_X1_text dX1_character_28 tw_140 ?_
    refine z_aload_n dX1_character_31 rfl rfl ?_
    refine zg_X1_at dX1_character_32 tw_126 ?_
    refine z_top ((show _ = nI s from h1)) ?_
    refine z_cald dX1_character_35 (fun _ _ => rfl) rfl (show s < 60 by omega) ?_
    refine z_goto (tgt := 40) dX1_character_36 (by decide) ?_
    have e : μ (4, 0, 0) s = chr (μ (4, 0, 0)) l s := (if_pos hb).symm
    refine z_top (e) ?_
    refine z_zret hR dX1_character_40 (by rw [eq]; exact (pk_charN hq).1) ⟨rfl, rfl⟩
def digI (x : Int32) : Int32 := if 48 ≤ x ∧ x ≤ 57 then x - 48 else -1
theorem c_digit (μ : zM) {l s : Nat} (h : PD μ l s) (hl : l ≤ 60) (hs : s ≤ 60) : zCi yX1_digit prog_3_method_12_code 2 (some .int) 2 [zR (3, 0, 0)] μ (digI (chr (μ (4, 0, 0)) l s)) := by
  refine zCt.of "DyeTank$Pad" rfl (by decide +kernel) rfl (Nat.le_of_ble_eq_true rfl) (fun K hR => ?_)
  have v0 := zv_0
  have v1 := zv_1
  have v2 := zv_2
  have v3 := zv_3
  have v4 := zv_4
  refine z_ls (ls' := [zR (3, 0, 0), zN]) rfl ?_
  refine z_aload_n dX1_digit_0 rfl rfl ?_
  refine z_cVi (c_character μ h hl hs) q_X1_character tw_479 dX1_digit_1 rfl rfl rfl (by omega) (Nat.le_of_ble_eq_true rfl) ?_
  refine z_istS_n dX1_digit_4 rfl (by decide) rfl ?_
  refine z_iload_n dX1_digit_5 rfl rfl ?_
  refine z_bipush (v := 48) dX1_digit_6 (by decide) ?_
  refine z_icmp_lt (tgt := 24) dX1_digit_8 (by decide) (fun h1 => ?_) (fun h1 => ?_)
  · refine z_iconst (v := -1) dX1_digit_24 (by decide) ?_
    refine z_iret hR dX1_digit_25 (⟨rfl, congrArg zI (if_neg (fun q => absurd q.1 (Int32.not_le.mpr h1))).symm⟩)
  · refine z_iload_n dX1_digit_11 rfl rfl ?_
    refine z_bipush (v := 57) dX1_digit_12 (by decide) ?_
    refine z_icmp_gt (tgt := 24) dX1_digit_14 (by decide) (fun h2 => ?_) (fun h2 => ?_)
    · refine z_iconst (v := -1) dX1_digit_24 (by decide) ?_
      refine z_iret hR dX1_digit_25 (⟨rfl, congrArg zI (if_neg (fun q => absurd q.2 (Int32.not_le.mpr h2))).symm⟩)
    · refine z_iload_n dX1_digit_17 rfl rfl ?_
      refine z_bipush (v := 48) dX1_digit_18 (by decide) ?_
      refine z_isub dX1_digit_20 ?_
      refine z_goto (tgt := 25) dX1_digit_21 (by decide) ?_
      refine z_iret hR dX1_digit_25 (⟨rfl, congrArg zI (if_pos ⟨Int32.not_lt.mp h1, Int32.not_lt.mp h2⟩).symm⟩)
/-- the pad's other fields stand -/
def pK (μ μ' : zM) : Prop := zoff [(3, 0, 0)] μ μ' ∧ ∀ j, 2 ≤ j → μ' (3, 0, 0) j = μ (3, 0, 0) j
theorem PD.at {μ : zM} {l s : Nat} (h : PD μ l s) (s' : Nat) : PD (st μ (3, 0, 0) (upd (μ (3, 0, 0)) 1 (nI s'))) l s' := by
  rw [PD, st_eq, st_ne _ _ (by simp)]
  exact ⟨h.1, rfl, h.2.2⟩
theorem pK_at (μ : zM) (x : Int32) : pK μ (st μ (3, 0, 0) (upd (μ (3, 0, 0)) 1 x)) := by
  refine ⟨zoff.rf.put (by simp) _, fun j hj => ?_⟩
  rw [st_eq]
  exact if_neg (by omega)
theorem pK.tr {μ μ' μ'' : zM} (h : pK μ μ') (h' : pK μ' μ'') : pK μ μ'' := ⟨zoff.tr h.1 h'.1 (by simp), fun j hj => (h'.2 j hj).trans (h.2 j hj)⟩
theorem pK.rf {μ : zM} : pK μ μ := ⟨zoff.rf, fun _ _ => rfl⟩
theorem c_take (μ : zM) {l s : Nat} (h : PD μ l s) (hl : l ≤ 60) (hs : s ≤ 60) (c : Int32) : zCs yX1_take prog_3_method_13_code 2 (some .boolean) 2 [zR (3, 0, 0), zI c] μ (fun μ' r => r = zb (chr (μ (4, 0, 0)) l s = c) ∧ pK μ μ' ∧ PD μ' l (mNeed (chr (μ (4, 0, 0)) l) c s false).1 ∧ (mNeed (chr (μ (4, 0, 0)) l) c s false).2 = decide (¬ chr (μ (4, 0, 0)) l s = c)) := by
  refine zCt.of "DyeTank$Pad" rfl (by decide +kernel) rfl (Nat.le_of_ble_eq_true rfl) (fun K hR => ?_)
  have v0 := zv_0
  have v1 := zv_1
  have v2 := zv_2
  have v3 := zv_3
  have v4 := zv_4
  refine z_ls (ls' := [zR (3, 0, 0), zI c]) rfl ?_
  refine z_aload_n dX1_take_0 rfl rfl ?_
  refine z_cVi (c_character μ h hl hs) q_X1_character tw_479 dX1_take_1 rfl rfl rfl (by omega) (Nat.le_of_ble_eq_true rfl) ?_
  refine z_iload_n dX1_take_4 rfl rfl ?_
  refine z_icmp_eq (tgt := 10) dX1_take_5 (by decide) (fun hb => ?_) (fun hb => ?_)
  · have e : mNeed (chr (μ (4, 0, 0)) l) c s false = (s + 1, false) := if_neg (fun q => q.elim (fun q => absurd q (by decide)) (fun q => q hb))
    refine z_aload_n dX1_take_10 rfl rfl ?_
    refine z_dup dX1_take_11 rfl ?_
    refine zg_X1_at dX1_take_12 tw_126 ?_
    refine z_top ((show _ = nI s from h.2.1)) ?_
    refine z_iconst (v := 1) dX1_take_15 (by decide) ?_
    refine z_iadd dX1_take_16 ?_
    refine z_top ((nI_1 s)) ?_
    refine zp_X1_at dX1_take_17 tw_126 ?_
    refine z_iconst (v := 1) dX1_take_20 (by decide) ?_
    refine z_bret hR dX1_take_21 (Or.inr rfl) ⟨_, rfl, (zb_t hb).symm, pK_at μ _, ?_, ?_⟩
    · rw [e]
      exact h.at (s + 1)
    · rw [e]
      exact (decide_eq_false (fun q => q hb)).symm
  · have e : mNeed (chr (μ (4, 0, 0)) l) c s false = (s, true) := if_pos (Or.inr hb)
    refine z_iconst (v := 0) dX1_take_8 (by decide) ?_
    refine z_bret hR dX1_take_9 (Or.inl rfl) ⟨_, rfl, (zb_f hb).symm, pK.rf, ?_, ?_⟩
    · rw [e]
      exact h
    · rw [e]
      exact (decide_eq_true hb).symm
theorem dig_ex {x : Int32} (h : 48 ≤ x ∧ x ≤ 57) : ∃ k : Nat, k < 10 ∧ x = nI (48 + k) ∧ x - 48 = nI k := by
  have h1 := Int32.le_iff_toInt_le.mp h.1
  have h2 := Int32.le_iff_toInt_le.mp h.2
  rw [show (48 : Int32).toInt = 48 by decide] at h1
  rw [show (57 : Int32).toInt = 57 by decide] at h2
  have e : x = nI (48 + (x.toInt.toNat - 48)) := sw_of (by omega) (by omega)
  refine ⟨x.toInt.toNat - 48, by omega, e, ?_⟩
  have q : ∀ k : Nat, nI (48 + k) - 48 = nI k := fun k => by
    show nI (48 + k) - nI 48 = _
    rw [pk_sub (by omega)]
    congr 1
    omega
  exact (congrArg (fun z => z - 48) e).trans (q _)
theorem dig_lo {x lo : Int32} (hlo : lo = 0 ∨ lo = 1) : (48 + (if 0 < lo then (1 : Int32) else 0) ≤ x ∧ x ≤ 57) ↔ lo ≤ digI x := by
  unfold digI
  by_cases h : 48 ≤ x ∧ x ≤ 57
  · obtain ⟨k, hk, e1, e2⟩ := dig_ex h
    rw [if_pos h, e2]
    rcases hlo with rfl | rfl
    · exact ⟨fun _ => nI_pos' (by omega), fun _ => ⟨by rw [if_neg (by decide), Int32.add_zero]; exact h.1, h.2⟩⟩
    · rw [if_pos (by decide), e1]
      constructor
      · intro q
        have := nle (a := 49) q.1
        exact (nI_leI (a := 1) (by omega) (by omega)).mpr (by omega)
      · intro q
        have := nle (a := 1) q
        exact ⟨(nI_leI (a := 49) (by omega) (by omega)).mpr (by omega), (nI_leI (b := 57) (by omega) (by omega)).mpr (by omega)⟩
  · rw [if_neg h]
    rcases hlo with rfl | rfl
    · exact ⟨fun q => absurd ⟨Int32.le_trans (by decide) q.1, q.2⟩ h, fun q => absurd q (by decide)⟩
    · exact ⟨fun q => absurd ⟨Int32.le_trans (by decide) q.1, q.2⟩ h, fun q => absurd q (by decide)⟩
theorem ten_eq (v c : Int32) : v * 10 + (c - 48) = 10 * v + c - 48 := by
  rw [Int32.mul_comm v 10, Int32.sub_eq_add_neg, Int32.sub_eq_add_neg, Int32.add_assoc]
/-- a number read is not below 0 -/
theorem numL_nn {ch : Nat → Int32} {hi : Int32} (hh : hi.toInt ≤ 999999) : ∀ (f : Nat) (v : Int32) (s : Nat), 0 ≤ v → v.toInt ≤ 999999 → 0 ≤ (numL ch hi f v s).1
  | 0, v, s, h, _ => h
  | f + 1, v, s, h, h9 => by
    by_cases q : 0 < v ∧ (48 ≤ ch s ∧ ch s ≤ 57) ∧ 10 * v + ch s - 48 ≤ hi
    · rw [show numL ch hi (f + 1) v s = numL ch hi f (10 * v + ch s - 48) (s + 1) from if_pos q]
      obtain ⟨k, hk, e1, e2⟩ := dig_ex q.2.1
      have h0 := Int32.le_iff_toInt_le.mp h
      rw [Int32.toInt_zero] at h0
      have ev : v = nI v.toInt.toNat := sw_of (by omega) (by omega)
      have e3 : 10 * v + ch s - 48 = nI (10 * v.toInt.toNat + k) := by
        rw [← ten_eq, e2, Int32.mul_comm]
        rw [show 10 * v = nI 10 * nI v.toInt.toNat from congrArg (fun z => 10 * z) ev, pk_mul, nI_add]
      have h4 := Int32.le_iff_toInt_le.mp q.2.2
      rw [e3, nI_toInt (by omega)] at h4
      refine numL_nn hh f _ _ ?_ ?_
      · rw [e3]; exact nI_pos' (by omega)
      · rw [e3, nI_toInt (by omega)]; omega
    · rw [show numL ch hi (f + 1) v s = (v, s) from if_neg q]
      exact h
theorem mNum_nn {ch : Nat → Int32} {lo hi : Int32} {s : Nat} {w : Bool} (hh : hi.toInt ≤ 999999) : 0 ≤ (mNum ch lo hi s w).1 := by
  unfold mNum
  by_cases h : w = true ∨ ¬ (48 + (if 0 < lo then 1 else 0) ≤ ch s ∧ ch s ≤ 57)
  · rw [if_pos h]
    exact Int32.le_refl 0
  · rw [if_neg h]
    have h2 : 48 + (if 0 < lo then 1 else 0) ≤ ch s ∧ ch s ≤ 57 := Decidable.not_not.mp (fun q => h (Or.inr q))
    obtain ⟨k, hk, e1, e2⟩ := dig_ex ⟨dlo_le h2.1, h2.2⟩
    refine numL_nn hh 61 _ _ ?_ ?_
    · rw [e2]; exact nI_pos' (by omega)
    · rw [e2, nI_toInt (by omega)]; omega
theorem c_readNumber (μ : zM) {l s : Nat} (h : PD μ l s) (hl : l ≤ 60) (hs : s ≤ l) (lo hi : Int32) (hlo : lo = 0 ∨ lo = 1) (hh : hi.toInt ≤ 999999) : zCs yX1_readNumber prog_3_method_11_code 5 (some .int) 3 [zR (3, 0, 0), zI lo, zI hi] μ (fun μ' r => pK μ μ' ∧ PD μ' l (mNum (chr (μ (4, 0, 0)) l) lo hi s false).2.1 ∧ r = (if (mNum (chr (μ (4, 0, 0)) l) lo hi s false).2.2 = true then -1 else (mNum (chr (μ (4, 0, 0)) l) lo hi s false).1)) := by
  refine zCt.of "DyeTank$Pad" rfl (by decide +kernel) rfl (Nat.le_of_ble_eq_true rfl) (fun K hR => ?_)
  have v0 := zv_0
  have v1 := zv_1
  have v2 := zv_2
  have v3 := zv_3
  have v4 := zv_4
  generalize hch : chr (μ (4, 0, 0)) l = ch at hR ⊢
  have loop : ∀ (f : Nat) (q : zV) (v : Int32) (s' : Nat) (μ' : zM), 60 < s' + f → s' ≤ l → pK μ μ' → PD μ' l s' → mNum ch lo hi s false = ((numL ch hi f v s').1, (numL ch hi f v s').2, false) → Z K 3 "DyeTank$Pad" prog_3_method_11_code 5 22 [zR (3, 0, 0), zI lo, zI hi, zI v, q] [] μ' := by
    intro f
    induction f with
    | zero => intro q v s' μ' h1 h2; omega
    | succ f ih =>
      intro q v s' μ' h1 h2 ho hP hM
      have hP' := hP
      obtain ⟨g0, g1, gc⟩ := hP
      have e4 : μ' (4, 0, 0) = μ (4, 0, 0) := ho.1.at (4, 0, 0)
      have stop : ∀ (q : zV), ¬ (0 < v ∧ (48 ≤ ch s' ∧ ch s' ≤ 57) ∧ 10 * v + ch s' - 48 ≤ hi) → Z K 3 "DyeTank$Pad" prog_3_method_11_code 5 83 [zR (3, 0, 0), zI lo, zI hi, zI v, q] [] μ' := by
        intro q hn
        have eN : numL ch hi (f + 1) v s' = (v, s') := if_neg hn
        rw [eN] at hM
        refine z_iload_n dX1_readNumber_83 rfl rfl ?_
        refine z_iret hR dX1_readNumber_84 (⟨_, rfl, ho, by rw [hM]; exact hP', by rw [hM]; rfl⟩)
      refine z_iload_n dX1_readNumber_22 rfl rfl ?_
      refine z_if_le (tgt := 83) dX1_readNumber_23 (by decide) (fun h3 => ?_) (fun h3 => ?_)
      · exact stop q (fun c => absurd c.1 (Int32.not_lt.mpr h3))
      · refine z_aload_n dX1_readNumber_26 rfl rfl ?_
        refine zg_X1_at dX1_readNumber_27 tw_126 ?_
        refine z_top ((show _ = nI s' from g1)) ?_
        refine z_aload_n dX1_readNumber_30 rfl rfl ?_
        refine zg_X1_length dX1_readNumber_31 tw_124 ?_
        refine z_top ((show _ = nI l from g0)) ?_
        refine z_icmp_ge (tgt := 83) dX1_readNumber_34 (by decide) (fun h4 => ?_) (fun h4 => ?_)
        · have h4 := nle h4
          refine stop q (fun c => absurd c.2.1.1 ?_)
          rw [← hch]
          intro q
          have := chr_lt q
          omega
        · have h4 := nnle h4
          refine z_aload_n dX1_readNumber_37 rfl rfl ?_
          refine z_cVi (c_digit μ' hP' hl (by omega)) q_X1_digit tw_491 dX1_readNumber_38 rfl rfl rfl (by omega) (Nat.le_of_ble_eq_true rfl) ?_
          refine z_istS dX1_readNumber_41 (by decide) rfl ?_
          rw [e4, hch]
          refine z_iload dX1_readNumber_43 rfl ?_
          refine z_if_lt (tgt := 83) dX1_readNumber_45 (by decide) (fun h5 => ?_) (fun h5 => ?_)
          · refine stop _ (fun c => ?_)
            obtain ⟨k, hk, e1, e2⟩ := dig_ex c.2.1
            unfold digI at h5
            rw [if_pos c.2.1, e2] at h5
            exact absurd h5 (nI_pos (by omega))
          · have hd : 48 ≤ ch s' ∧ ch s' ≤ 57 := by
              by_cases q : 48 ≤ ch s' ∧ ch s' ≤ 57
              · exact q
              · unfold digI at h5
                rw [if_neg q] at h5
                exact absurd (by decide) h5
            have ed : digI (ch s') = ch s' - 48 := if_pos hd
            rw [ed]
            refine z_iload_n dX1_readNumber_48 rfl rfl ?_
            refine z_bipush (v := 10) dX1_readNumber_49 (by decide) ?_
            refine z_imul dX1_readNumber_51 ?_
            refine z_iload dX1_readNumber_52 rfl ?_
            refine z_iadd dX1_readNumber_54 ?_
            refine z_top ((ten_eq v (ch s'))) ?_
            refine z_iload_n dX1_readNumber_55 rfl rfl ?_
            refine z_icmp_le (tgt := 62) dX1_readNumber_56 (by decide) (fun h6 => ?_) (fun h6 => ?_)
            · have hc : 0 < v ∧ (48 ≤ ch s' ∧ ch s' ≤ 57) ∧ 10 * v + ch s' - 48 ≤ hi := ⟨Int32.not_le.mp h3, hd, h6⟩
              have eN : numL ch hi (f + 1) v s' = numL ch hi f (10 * v + ch s' - 48) (s' + 1) := if_pos hc
              rw [eN] at hM
              refine z_iload_n dX1_readNumber_62 rfl rfl ?_
              refine z_bipush (v := 10) dX1_readNumber_63 (by decide) ?_
              refine z_imul dX1_readNumber_65 ?_
              refine z_iload dX1_readNumber_66 rfl ?_
              refine z_iadd dX1_readNumber_68 ?_
              refine z_top ((ten_eq v (ch s'))) ?_
              refine z_istS_n dX1_readNumber_69 rfl (by decide) rfl ?_
              refine z_aload_n dX1_readNumber_70 rfl rfl ?_
              refine z_dup dX1_readNumber_71 rfl ?_
              refine zg_X1_at dX1_readNumber_72 tw_126 ?_
              refine z_top ((show _ = nI s' from g1)) ?_
              refine z_iconst (v := 1) dX1_readNumber_75 (by decide) ?_
              refine z_iadd dX1_readNumber_76 ?_
              refine z_top ((nI_1 s')) ?_
              refine zp_X1_at dX1_readNumber_77 tw_126 ?_
              refine z_goto (tgt := 22) dX1_readNumber_80 (by decide) ?_
              exact ih _ _ (s' + 1) _ (by omega) h4 (ho.tr (pK_at μ' _)) (hP'.at (s' + 1)) hM
            · refine z_goto (tgt := 83) dX1_readNumber_59 (by decide) ?_
              exact stop _ (fun c => h6 c.2.2)
  refine z_ls (ls' := [zR (3, 0, 0), zI lo, zI hi, zN, zN]) rfl ?_
  refine z_aload_n dX1_readNumber_0 rfl rfl ?_
  refine z_cVi (c_digit μ h hl (by omega)) q_X1_digit tw_491 dX1_readNumber_1 rfl rfl rfl (by omega) (Nat.le_of_ble_eq_true rfl) ?_
  refine z_istS_n dX1_readNumber_4 rfl (by decide) rfl ?_
  refine z_iload_n dX1_readNumber_5 rfl rfl ?_
  refine z_iload_n dX1_readNumber_6 rfl rfl ?_
  rw [hch]
  refine z_icmp_ge (tgt := 12) dX1_readNumber_7 (by decide) (fun h7 => ?_) (fun h7 => ?_)
  · have hc := (dig_lo (x := ch s) hlo).mpr h7
    have e : mNum ch lo hi s false = ((numL ch hi 61 (ch s - 48) (s + 1)).1, (numL ch hi 61 (ch s - 48) (s + 1)).2, false) := if_neg (fun q => q.elim (fun q => absurd q (by decide)) (fun q => q hc))
    have hd : 48 ≤ ch s ∧ ch s ≤ 57 := ⟨dlo_le hc.1, hc.2⟩
    have ed : digI (ch s) = ch s - 48 := if_pos hd
    rw [ed]
    refine z_aload_n dX1_readNumber_12 rfl rfl ?_
    refine z_dup dX1_readNumber_13 rfl ?_
    refine zg_X1_at dX1_readNumber_14 tw_126 ?_
    refine z_top ((show _ = nI s from h.2.1)) ?_
    refine z_iconst (v := 1) dX1_readNumber_17 (by decide) ?_
    refine z_iadd dX1_readNumber_18 ?_
    refine z_top ((nI_1 s)) ?_
    refine zp_X1_at dX1_readNumber_19 tw_126 ?_
    exact loop 61 _ _ (s + 1) _ (by omega) (chr_lt (by rw [hch]; exact hd.1)) (pK_at μ _) (h.at (s + 1)) e
  · have hc : ¬ (48 + (if 0 < lo then 1 else 0) ≤ ch s ∧ ch s ≤ 57) := fun q => h7 ((dig_lo (x := ch s) hlo).mp q)
    have e : mNum ch lo hi s false = (0, s, true) := if_pos (Or.inr hc)
    rw [e] at hR
    refine z_iconst (v := -1) dX1_readNumber_10 (by decide) ?_
    refine z_iret hR dX1_readNumber_11 (⟨_, rfl, pK.rf, h, rfl⟩)
