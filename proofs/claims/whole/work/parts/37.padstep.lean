/-! the pad of the component: parts of a step, a step, the first fault -/
def pX (js : List Nat) (μ μ' : zM) : Prop := zoff [(3, 0, 0)] μ μ' ∧ ∀ j, 2 ≤ j → j ∉ js → μ' (3, 0, 0) j = μ (3, 0, 0) j
theorem pK.x {μ μ' : zM} {js : List Nat} (h : pK μ μ') : pX js μ μ' := ⟨h.1, fun j hj _ => h.2 j hj⟩
theorem pX.tr {μ μ' μ'' : zM} {js js' : List Nat} (h : pX js μ μ') (h' : pX js' μ' μ'') (hs : ∀ a ∈ js', a ∈ js) : pX js μ μ'' := ⟨zoff.tr h.1 h'.1 (by simp), fun j hj hn => (h'.2 j hj (fun q => hn (hs j q))).trans (h.2 j hj hn)⟩
theorem pX.sub {μ μ' : zM} {js js' : List Nat} (h : pX js μ μ') (hs : ∀ a ∈ js, a ∈ js') : pX js' μ μ' := ⟨h.1, fun j hj hn => h.2 j hj (fun q => hn (hs j q))⟩
theorem pX_put (μ : zM) {k : Nat} (x : Int32) {js : List Nat} (hk : k ∈ js) : pX js μ (st μ (3, 0, 0) (upd (μ (3, 0, 0)) k x)) := by
  refine ⟨zoff.rf.put (by simp) _, fun j hj hn => ?_⟩
  rw [st_eq]
  exact if_neg (fun e => hn (by rw [e]; exact hk))
theorem PD.put {μ : zM} {l s : Nat} (h : PD μ l s) {k : Nat} (hk : 2 ≤ k) (x : Int32) : PD (st μ (3, 0, 0) (upd (μ (3, 0, 0)) k x)) l s := by
  rw [PD, st_eq, st_ne _ _ (by simp)]
  refine ⟨?_, ?_, h.2.2⟩
  · exact (if_neg (by omega)).trans h.1
  · exact (if_neg (by omega)).trans h.2.1
theorem st_at3 (μ : zM) (k : Nat) (x : Int32) : (st μ (3, 0, 0) (upd (μ (3, 0, 0)) k x)) (3, 0, 0) k = x := by
  rw [st_eq]
  exact if_pos rfl
theorem c_readRing (μ : zM) {l s : Nat} (h : PD μ l s) (hl : l ≤ 60) (hs : s ≤ l) : zCs yX1_readRing prog_3_method_5_code 1 (some .boolean) 4 [zR (3, 0, 0)] μ (fun μ' r => r = zb (¬ (mNum (chr (μ (4, 0, 0)) l) 0 11 s false).2.2 = true) ∧ pX [5] μ μ' ∧ PD μ' l (mNum (chr (μ (4, 0, 0)) l) 0 11 s false).2.1 ∧ ((mNum (chr (μ (4, 0, 0)) l) 0 11 s false).2.2 = false → μ' (3, 0, 0) 5 = (mNum (chr (μ (4, 0, 0)) l) 0 11 s false).1)) := by
  refine zCt.of "DyeTank$Pad" rfl (by decide +kernel) rfl (Nat.le_of_ble_eq_true rfl) (fun K hR => ?_)
  have v0 := zv_0
  have v1 := zv_1
  have v2 := zv_2
  have v3 := zv_3
  have v4 := zv_4
  refine z_ls (ls' := [zR (3, 0, 0)]) rfl ?_
  refine z_aload_n dX1_readRing_0 rfl rfl ?_
  refine z_aload_n dX1_readRing_1 rfl rfl ?_
  refine z_iconst (v := 0) dX1_readRing_2 (by decide) ?_
  refine z_bipush (v := 11) dX1_readRing_3 (by decide) ?_
  refine z_cVs (c_readNumber μ h hl hs 0 11 (by decide) (by decide)) q_X1_readNumber tw_487 dX1_readRing_5 rfl rfl rfl (by omega) (Nat.le_of_ble_eq_true rfl) (fun μ1 x1 hh => ?_)
  have hn := mNum_nn (ch := chr (μ (4, 0, 0)) l) (lo := 0) (hi := 11) (s := s) (w := false) (by decide)
  generalize mNum (chr (μ (4, 0, 0)) l) 0 11 s false = n at hR hh hn ⊢
  obtain ⟨o1, p1, e1⟩ := hh
  refine zp_X1_ring dX1_readRing_8 tw_134 ?_
  refine z_aload_n dX1_readRing_11 rfl rfl ?_
  refine zg_X1_ring dX1_readRing_12 tw_134 ?_
  rw [st_at3]
  by_cases hw : n.2.2 = true
  · rw [if_pos hw] at e1
    subst e1
    refine z_if_lt (tgt := 22) dX1_readRing_15 (by decide) (fun _ => ?_) (fun h9 => absurd (by decide) h9)
    refine z_iconst (v := 0) dX1_readRing_22 (by decide) ?_
    refine z_bret hR dX1_readRing_23 (Or.inl rfl) ⟨_, rfl, (zb_f (fun q => q hw)).symm, o1.x.tr (pX_put μ1 (js := [5]) _ (by simp)) (by simp), p1.put (by decide) _, fun q => absurd (hw.symm.trans q) (by decide)⟩
  · rw [if_neg hw] at e1
    subst e1
    refine z_if_lt (tgt := 22) dX1_readRing_15 (by decide) (fun h9 => absurd h9 (Int32.not_lt.mpr hn)) (fun _ => ?_)
    refine z_iconst (v := 1) dX1_readRing_18 (by decide) ?_
    refine z_goto (tgt := 23) dX1_readRing_19 (by decide) ?_
    refine z_bret hR dX1_readRing_23 (Or.inr rfl) ⟨_, rfl, (zb_t hw).symm, o1.x.tr (pX_put μ1 (js := [5]) _ (by simp)) (by simp), p1.put (by decide) _, fun q => st_at3 _ _ _⟩
theorem c_readSector (μ : zM) {l s : Nat} (h : PD μ l s) (hl : l ≤ 60) (hs : s ≤ l) : zCs yX1_readSector prog_3_method_9_code 1 (some .boolean) 4 [zR (3, 0, 0)] μ (fun μ' r => r = zb (¬ (mNum (chr (μ (4, 0, 0)) l) 0 23 s false).2.2 = true) ∧ pX [6] μ μ' ∧ PD μ' l (mNum (chr (μ (4, 0, 0)) l) 0 23 s false).2.1 ∧ ((mNum (chr (μ (4, 0, 0)) l) 0 23 s false).2.2 = false → μ' (3, 0, 0) 6 = (mNum (chr (μ (4, 0, 0)) l) 0 23 s false).1)) := by
  refine zCt.of "DyeTank$Pad" rfl (by decide +kernel) rfl (Nat.le_of_ble_eq_true rfl) (fun K hR => ?_)
  have v0 := zv_0
  have v1 := zv_1
  have v2 := zv_2
  have v3 := zv_3
  have v4 := zv_4
  refine z_ls (ls' := [zR (3, 0, 0)]) rfl ?_
  refine z_aload_n dX1_readSector_0 rfl rfl ?_
  refine z_aload_n dX1_readSector_1 rfl rfl ?_
  refine z_iconst (v := 0) dX1_readSector_2 (by decide) ?_
  refine z_bipush (v := 23) dX1_readSector_3 (by decide) ?_
  refine z_cVs (c_readNumber μ h hl hs 0 23 (by decide) (by decide)) q_X1_readNumber tw_487 dX1_readSector_5 rfl rfl rfl (by omega) (Nat.le_of_ble_eq_true rfl) (fun μ1 x1 hh => ?_)
  have hn := mNum_nn (ch := chr (μ (4, 0, 0)) l) (lo := 0) (hi := 23) (s := s) (w := false) (by decide)
  generalize mNum (chr (μ (4, 0, 0)) l) 0 23 s false = n at hR hh hn ⊢
  obtain ⟨o1, p1, e1⟩ := hh
  refine zp_X1_sector dX1_readSector_8 tw_136 ?_
  refine z_aload_n dX1_readSector_11 rfl rfl ?_
  refine zg_X1_sector dX1_readSector_12 tw_136 ?_
  rw [st_at3]
  by_cases hw : n.2.2 = true
  · rw [if_pos hw] at e1
    subst e1
    refine z_if_lt (tgt := 22) dX1_readSector_15 (by decide) (fun _ => ?_) (fun h9 => absurd (by decide) h9)
    refine z_iconst (v := 0) dX1_readSector_22 (by decide) ?_
    refine z_bret hR dX1_readSector_23 (Or.inl rfl) ⟨_, rfl, (zb_f (fun q => q hw)).symm, o1.x.tr (pX_put μ1 (js := [6]) _ (by simp)) (by simp), p1.put (by decide) _, fun q => absurd (hw.symm.trans q) (by decide)⟩
  · rw [if_neg hw] at e1
    subst e1
    refine z_if_lt (tgt := 22) dX1_readSector_15 (by decide) (fun h9 => absurd h9 (Int32.not_lt.mpr hn)) (fun _ => ?_)
    refine z_iconst (v := 1) dX1_readSector_18 (by decide) ?_
    refine z_goto (tgt := 23) dX1_readSector_19 (by decide) ?_
    refine z_bret hR dX1_readSector_23 (Or.inr rfl) ⟨_, rfl, (zb_t hw).symm, o1.x.tr (pX_put μ1 (js := [6]) _ (by simp)) (by simp), p1.put (by decide) _, fun q => st_at3 _ _ _⟩
theorem c_readAmount (μ : zM) {l s : Nat} (h : PD μ l s) (hl : l ≤ 60) (hs : s ≤ l) : zCs yX1_readAmount prog_3_method_10_code 1 (some .boolean) 4 [zR (3, 0, 0)] μ (fun μ' r => r = zb (¬ (mNum (chr (μ (4, 0, 0)) l) 1 999999 s false).2.2 = true) ∧ pX [7] μ μ' ∧ PD μ' l (mNum (chr (μ (4, 0, 0)) l) 1 999999 s false).2.1 ∧ ((mNum (chr (μ (4, 0, 0)) l) 1 999999 s false).2.2 = false → μ' (3, 0, 0) 7 = (mNum (chr (μ (4, 0, 0)) l) 1 999999 s false).1)) := by
  refine zCt.of "DyeTank$Pad" rfl (by decide +kernel) rfl (Nat.le_of_ble_eq_true rfl) (fun K hR => ?_)
  have v0 := zv_0
  have v1 := zv_1
  have v2 := zv_2
  have v3 := zv_3
  have v4 := zv_4
  refine z_ls (ls' := [zR (3, 0, 0)]) rfl ?_
  refine z_aload_n dX1_readAmount_0 rfl rfl ?_
  refine z_aload_n dX1_readAmount_1 rfl rfl ?_
  refine z_iconst (v := 1) dX1_readAmount_2 (by decide) ?_
  refine z_ldc (v := 999999) dX1_readAmount_3 tw_519 ?_
  refine z_cVs (c_readNumber μ h hl hs 1 999999 (by decide) (by decide)) q_X1_readNumber tw_487 dX1_readAmount_5 rfl rfl rfl (by omega) (Nat.le_of_ble_eq_true rfl) (fun μ1 x1 hh => ?_)
  have hn := mNum_nn (ch := chr (μ (4, 0, 0)) l) (lo := 1) (hi := 999999) (s := s) (w := false) (by decide)
  generalize mNum (chr (μ (4, 0, 0)) l) 1 999999 s false = n at hR hh hn ⊢
  obtain ⟨o1, p1, e1⟩ := hh
  refine zp_X1_number dX1_readAmount_8 tw_138 ?_
  refine z_aload_n dX1_readAmount_11 rfl rfl ?_
  refine zg_X1_number dX1_readAmount_12 tw_138 ?_
  rw [st_at3]
  by_cases hw : n.2.2 = true
  · rw [if_pos hw] at e1
    subst e1
    refine z_if_lt (tgt := 22) dX1_readAmount_15 (by decide) (fun _ => ?_) (fun h9 => absurd (by decide) h9)
    refine z_iconst (v := 0) dX1_readAmount_22 (by decide) ?_
    refine z_bret hR dX1_readAmount_23 (Or.inl rfl) ⟨_, rfl, (zb_f (fun q => q hw)).symm, o1.x.tr (pX_put μ1 (js := [7]) _ (by simp)) (by simp), p1.put (by decide) _, fun q => absurd (hw.symm.trans q) (by decide)⟩
  · rw [if_neg hw] at e1
    subst e1
    refine z_if_lt (tgt := 22) dX1_readAmount_15 (by decide) (fun h9 => absurd h9 (Int32.not_lt.mpr hn)) (fun _ => ?_)
    refine z_iconst (v := 1) dX1_readAmount_18 (by decide) ?_
    refine z_goto (tgt := 23) dX1_readAmount_19 (by decide) ?_
    refine z_bret hR dX1_readAmount_23 (Or.inr rfl) ⟨_, rfl, (zb_t hw).symm, o1.x.tr (pX_put μ1 (js := [7]) _ (by simp)) (by simp), p1.put (by decide) _, fun q => st_at3 _ _ _⟩
theorem mNeed_t {ch : Nat → Int32} {c : Int32} {s : Nat} (h : ch s = c) : mNeed ch c s false = (s + 1, false) := if_neg (fun q => q.elim (fun q => absurd q (by decide)) (fun q => q h))
theorem mNeed_f {ch : Nat → Int32} {c : Int32} {s : Nat} (h : ¬ ch s = c) : mNeed ch c s false = (s, true) := if_pos (Or.inr h)
theorem mOne_t {ch : Nat → Int32} {lo hi : Int32} {s : Nat} (h : lo ≤ ch s ∧ ch s ≤ hi) : mOne ch lo hi s false = (s + 1, false) := if_neg (fun q => q.elim (fun q => absurd q (by decide)) (fun q => q h))
theorem mOne_f {ch : Nat → Int32} {lo hi : Int32} {s : Nat} (h : ¬ (lo ≤ ch s ∧ ch s ≤ hi)) : mOne ch lo hi s false = (s, true) := if_pos (Or.inr h)
theorem rng97 {x : Int32} : (97 ≤ x ∧ x ≤ 99) ↔ x = 97 ∨ x = 98 ∨ x = 99 := by
  constructor
  · intro ⟨h1, h2⟩
    have h1 := Int32.le_iff_toInt_le.mp h1
    have h2 := Int32.le_iff_toInt_le.mp h2
    rw [show (97 : Int32).toInt = 97 by decide] at h1
    rw [show (99 : Int32).toInt = 99 by decide] at h2
    rcases (show x.toInt = 97 ∨ x.toInt = 98 ∨ x.toInt = 99 by omega) with e | e | e
    · exact Or.inl (sw_of (k := 97) (by decide) e)
    · exact Or.inr (Or.inl (sw_of (k := 98) (by decide) e))
    · exact Or.inr (Or.inr (sw_of (k := 99) (by decide) e))
  · intro h
    rcases h with rfl | rfl | rfl <;> exact ⟨by decide, by decide⟩
theorem rng94 {x : Int32} : (94 ≤ x ∧ x ≤ 95) ↔ x = 94 ∨ x = 95 := by
  constructor
  · intro ⟨h1, h2⟩
    have h1 := Int32.le_iff_toInt_le.mp h1
    have h2 := Int32.le_iff_toInt_le.mp h2
    rw [show (94 : Int32).toInt = 94 by decide] at h1
    rw [show (95 : Int32).toInt = 95 by decide] at h2
    rcases (show x.toInt = 94 ∨ x.toInt = 95 by omega) with e | e
    · exact Or.inl (sw_of (k := 94) (by decide) e)
    · exact Or.inr (sw_of (k := 95) (by decide) e)
  · intro h
    rcases h with rfl | rfl <;> exact ⟨by decide, by decide⟩
theorem c_readColour (μ : zM) {l s : Nat} (h : PD μ l s) (hl : l ≤ 60) (hs : s ≤ l) : zCs yX1_readColour prog_3_method_7_code 1 (some .boolean) 4 [zR (3, 0, 0)] μ (fun μ' r => r = zb (¬ (mOne (chr (μ (4, 0, 0)) l) 97 99 s false).2 = true) ∧ pX [3] μ μ' ∧ PD μ' l (mOne (chr (μ (4, 0, 0)) l) 97 99 s false).1 ∧ ((mOne (chr (μ (4, 0, 0)) l) 97 99 s false).2 = false → μ' (3, 0, 0) 3 = chr (μ (4, 0, 0)) l s - 97)) := by
  refine zCt.of "DyeTank$Pad" rfl (by decide +kernel) rfl (Nat.le_of_ble_eq_true rfl) (fun K hR => ?_)
  have v0 := zv_0
  have v1 := zv_1
  have v2 := zv_2
  have v3 := zv_3
  have v4 := zv_4
  generalize hch : chr (μ (4, 0, 0)) l = ch at hR ⊢
  refine z_ls (ls' := [zR (3, 0, 0)]) rfl ?_
  refine z_aload_n dX1_readColour_0 rfl rfl ?_
  refine z_aload_n dX1_readColour_1 rfl rfl ?_
  refine z_cVi (c_character μ h hl (by omega)) q_X1_character tw_479 dX1_readColour_2 rfl rfl rfl (by omega) (Nat.le_of_ble_eq_true rfl) ?_
  rw [hch]
  refine z_bipush (v := 97) dX1_readColour_5 (by decide) ?_
  refine z_isub dX1_readColour_7 ?_
  refine zp_X1_colour dX1_readColour_8 tw_130 ?_
  have o0 : pX [3] μ (st μ (3, 0, 0) (upd (μ (3, 0, 0)) 3 (ch s - 97))) := pX_put μ _ (by simp)
  have p0 : PD (st μ (3, 0, 0) (upd (μ (3, 0, 0)) 3 (ch s - 97))) l s := h.put (by decide) _
  have f0 := st_at3 μ 3 (ch s - 97)
  generalize st μ (3, 0, 0) (upd (μ (3, 0, 0)) 3 (ch s - 97)) = ν at o0 p0 f0 ⊢
  have hit : ∀ μ' : zM, (ch s = 97 ∨ ch s = 98 ∨ ch s = 99) → pX [3] μ μ' → PD μ' l (s + 1) → μ' (3, 0, 0) 3 = ch s - 97 → Z K 4 "DyeTank$Pad" prog_3_method_7_code 1 38 [zR (3, 0, 0)] [] μ' := by
    intro μ' hc ho hP hf
    rw [mOne_t (rng97.mpr hc)] at hR
    refine z_iconst (v := 1) dX1_readColour_38 (by decide) ?_
    refine z_goto (tgt := 43) dX1_readColour_39 (by decide) ?_
    refine z_bret hR dX1_readColour_43 (Or.inr rfl) ⟨_, rfl, rfl, ho, hP, fun _ => hf⟩
  refine z_aload_n dX1_readColour_11 rfl rfl ?_
  refine z_bipush (v := 97) dX1_readColour_12 (by decide) ?_
  refine z_cVs (c_take ν p0 hl (by omega) 97) q_X1_take tw_483 dX1_readColour_14 rfl rfl rfl (by omega) (Nat.le_of_ble_eq_true rfl) (fun μ1 x1 hh => ?_)
  rw [o0.1.at (4, 0, 0), hch] at hh
  obtain ⟨e1, o1, p1, _⟩ := hh
  rw [e1]
  have t1 := o0.tr (js' := [3]) o1.x (by simp)
  have f1 := (o1.2 3 (by omega)).trans f0
  refine z_bne (tgt := 38) dX1_readColour_17 (by decide) (fun hc => ?_) (fun hc => ?_)
  · rw [mNeed_t hc] at p1
    exact hit μ1 (Or.inl hc) t1 p1 f1
  · rw [mNeed_f hc] at p1
    refine z_aload_n dX1_readColour_20 rfl rfl ?_
    refine z_bipush (v := 98) dX1_readColour_21 (by decide) ?_
    refine z_cVs (c_take μ1 p1 hl (by omega) 98) q_X1_take tw_483 dX1_readColour_23 rfl rfl rfl (by omega) (Nat.le_of_ble_eq_true rfl) (fun μ2 x2 hh => ?_)
    rw [t1.1.at (4, 0, 0), hch] at hh
    obtain ⟨e2, o2, p2, _⟩ := hh
    rw [e2]
    have t2 := t1.tr (js' := [3]) o2.x (by simp)
    have f2 := (o2.2 3 (by omega)).trans f1
    refine z_bne (tgt := 38) dX1_readColour_26 (by decide) (fun hc2 => ?_) (fun hc2 => ?_)
    · rw [mNeed_t hc2] at p2
      exact hit μ2 (Or.inr (Or.inl hc2)) t2 p2 f2
    · rw [mNeed_f hc2] at p2
      refine z_aload_n dX1_readColour_29 rfl rfl ?_
      refine z_bipush (v := 99) dX1_readColour_30 (by decide) ?_
      refine z_cVs (c_take μ2 p2 hl (by omega) 99) q_X1_take tw_483 dX1_readColour_32 rfl rfl rfl (by omega) (Nat.le_of_ble_eq_true rfl) (fun μ3 x3 hh => ?_)
      rw [t2.1.at (4, 0, 0), hch] at hh
      obtain ⟨e3, o3, p3, _⟩ := hh
      rw [e3]
      have t3 := t2.tr (js' := [3]) o3.x (by simp)
      have f3 := (o3.2 3 (by omega)).trans f2
      refine z_beq (tgt := 42) dX1_readColour_35 (by decide) (fun hc3 => ?_) (fun hc3 => ?_)
      · rw [mNeed_f hc3] at p3
        rw [mOne_f (fun q => (rng97.mp q).elim hc (fun q => q.elim hc2 hc3))] at hR
        refine z_iconst (v := 0) dX1_readColour_42 (by decide) ?_
        refine z_bret hR dX1_readColour_43 (Or.inl rfl) ⟨_, rfl, rfl, t3, p3, fun q => absurd (show true = false from q) (by decide)⟩
      · rw [mNeed_t hc3] at p3
        exact hit μ3 (Or.inr (Or.inr hc3)) t3 p3 f3
theorem c_readLayer (μ : zM) {l s : Nat} (h : PD μ l s) (hl : l ≤ 60) (hs : s ≤ l) : zCs yX1_readLayer prog_3_method_8_code 1 (some .boolean) 4 [zR (3, 0, 0)] μ (fun μ' r => r = zb (¬ (mOne (chr (μ (4, 0, 0)) l) 94 95 s false).2 = true) ∧ pX [4] μ μ' ∧ PD μ' l (mOne (chr (μ (4, 0, 0)) l) 94 95 s false).1 ∧ ((mOne (chr (μ (4, 0, 0)) l) 94 95 s false).2 = false → μ' (3, 0, 0) 4 = chr (μ (4, 0, 0)) l s - 94)) := by
  refine zCt.of "DyeTank$Pad" rfl (by decide +kernel) rfl (Nat.le_of_ble_eq_true rfl) (fun K hR => ?_)
  have v0 := zv_0
  have v1 := zv_1
  have v2 := zv_2
  have v3 := zv_3
  have v4 := zv_4
  generalize hch : chr (μ (4, 0, 0)) l = ch at hR ⊢
  have main : ∀ (v : Int32), ((ch s = 94 ∨ ch s = 95) → v = ch s - 94) → Z K 4 "DyeTank$Pad" prog_3_method_8_code 1 15 [zR (3, 0, 0)] [zI v, zR (3, 0, 0)] μ := by
    intro v hv
    refine zp_X1_layer dX1_readLayer_15 tw_132 ?_
    have o0 : pX [4] μ (st μ (3, 0, 0) (upd (μ (3, 0, 0)) 4 v)) := pX_put μ _ (by simp)
    have p0 : PD (st μ (3, 0, 0) (upd (μ (3, 0, 0)) 4 v)) l s := h.put (by decide) _
    have f0 := st_at3 μ 4 v
    generalize st μ (3, 0, 0) (upd (μ (3, 0, 0)) 4 v) = ν at o0 p0 f0 ⊢
    have hit : ∀ μ' : zM, (ch s = 94 ∨ ch s = 95) → pX [4] μ μ' → PD μ' l (s + 1) → μ' (3, 0, 0) 4 = v → Z K 4 "DyeTank$Pad" prog_3_method_8_code 1 36 [zR (3, 0, 0)] [] μ' := by
      intro μ' hc ho hP hf
      rw [mOne_t (rng94.mpr hc)] at hR
      refine z_iconst (v := 1) dX1_readLayer_36 (by decide) ?_
      refine z_goto (tgt := 41) dX1_readLayer_37 (by decide) ?_
      refine z_bret hR dX1_readLayer_41 (Or.inr rfl) ⟨_, rfl, rfl, ho, hP, fun _ => hf.trans (hv hc)⟩
    refine z_aload_n dX1_readLayer_18 rfl rfl ?_
    refine z_bipush (v := 94) dX1_readLayer_19 (by decide) ?_
    refine z_cVs (c_take ν p0 hl (by omega) 94) q_X1_take tw_483 dX1_readLayer_21 rfl rfl rfl (by omega) (Nat.le_of_ble_eq_true rfl) (fun μ1 x1 hh => ?_)
    rw [o0.1.at (4, 0, 0), hch] at hh
    obtain ⟨e1, o1, p1, _⟩ := hh
    rw [e1]
    have t1 := o0.tr (js' := [4]) o1.x (by simp)
    have f1 := (o1.2 4 (by omega)).trans f0
    refine z_bne (tgt := 36) dX1_readLayer_24 (by decide) (fun hc => ?_) (fun hc => ?_)
    · rw [mNeed_t hc] at p1
      exact hit μ1 (Or.inl hc) t1 p1 f1
    · rw [mNeed_f hc] at p1
      refine z_aload_n dX1_readLayer_27 rfl rfl ?_
      refine z_bipush (v := 95) dX1_readLayer_28 (by decide) ?_
      refine z_cVs (c_take μ1 p1 hl (by omega) 95) q_X1_take tw_483 dX1_readLayer_30 rfl rfl rfl (by omega) (Nat.le_of_ble_eq_true rfl) (fun μ2 x2 hh => ?_)
      rw [t1.1.at (4, 0, 0), hch] at hh
      obtain ⟨e2, o2, p2, _⟩ := hh
      rw [e2]
      have t2 := t1.tr (js' := [4]) o2.x (by simp)
      have f2 := (o2.2 4 (by omega)).trans f1
      refine z_beq (tgt := 40) dX1_readLayer_33 (by decide) (fun hc2 => ?_) (fun hc2 => ?_)
      · rw [mNeed_f hc2] at p2
        rw [mOne_f (fun q => (rng94.mp q).elim hc hc2)] at hR
        refine z_iconst (v := 0) dX1_readLayer_40 (by decide) ?_
        refine z_bret hR dX1_readLayer_41 (Or.inl rfl) ⟨_, rfl, rfl, t2, p2, fun q => absurd (show true = false from q) (by decide)⟩
      · rw [mNeed_t hc2] at p2
        exact hit μ2 (Or.inr hc2) t2 p2 f2
  refine z_ls (ls' := [zR (3, 0, 0)]) rfl ?_
  refine z_aload_n dX1_readLayer_0 rfl rfl ?_
  refine z_aload_n dX1_readLayer_1 rfl rfl ?_
  refine z_cVi (c_character μ h hl (by omega)) q_X1_character tw_479 dX1_readLayer_2 rfl rfl rfl (by omega) (Nat.le_of_ble_eq_true rfl) ?_
  rw [hch]
  refine z_bipush (v := 94) dX1_readLayer_5 (by decide) ?_
  refine z_icmp_ne (tgt := 14) dX1_readLayer_7 (by decide) (fun hb => ?_) (fun hb => ?_)
  · refine z_iconst (v := 1) dX1_readLayer_14 (by decide) ?_
    refine main 1 (fun q => ?_)
    rcases q with q | q
    · exact absurd q hb
    · rw [q]; decide
  · refine z_iconst (v := 0) dX1_readLayer_10 (by decide) ?_
    refine z_goto (tgt := 15) dX1_readLayer_11 (by decide) ?_
    refine main 0 (fun _ => ?_)
    rw [hb]
    decide
