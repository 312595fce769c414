theorem c_readVelocity (μ : zM) {l s : Nat} (h : PD μ l s) (hl : l ≤ 60) (hs : s ≤ l) : zCs yX1_readVelocity prog_3_method_6_code 3 (some .boolean) 4 [zR (3, 0, 0)] μ (fun μ' r => r = zb (¬ (mNum (chr (μ (4, 0, 0)) l) 0 1500 (if chr (μ (4, 0, 0)) l s = 45 then s + 1 else s) false).2.2 = true) ∧ pX [7] μ μ' ∧ PD μ' l (mNum (chr (μ (4, 0, 0)) l) 0 1500 (if chr (μ (4, 0, 0)) l s = 45 then s + 1 else s) false).2.1 ∧ ((mNum (chr (μ (4, 0, 0)) l) 0 1500 (if chr (μ (4, 0, 0)) l s = 45 then s + 1 else s) false).2.2 = false → μ' (3, 0, 0) 7 = (if chr (μ (4, 0, 0)) l s = 45 then -(mNum (chr (μ (4, 0, 0)) l) 0 1500 (if chr (μ (4, 0, 0)) l s = 45 then s + 1 else s) false).1 else (mNum (chr (μ (4, 0, 0)) l) 0 1500 (if chr (μ (4, 0, 0)) l s = 45 then s + 1 else s) false).1))) := by
  refine zCt.of "DyeTank$Pad" rfl (by decide +kernel) rfl (Nat.le_of_ble_eq_true rfl) (fun K hR => ?_)
  have v0 := zv_0
  have v1 := zv_1
  have v2 := zv_2
  have v3 := zv_3
  have v4 := zv_4
  generalize hch : chr (μ (4, 0, 0)) l = ch at hR ⊢
  refine z_ls (ls' := [zR (3, 0, 0), zN, zN]) rfl ?_
  refine z_aload_n dX1_readVelocity_0 rfl rfl ?_
  refine z_bipush (v := 45) dX1_readVelocity_1 (by decide) ?_
  refine z_cVs (c_take μ h hl (by omega) 45) q_X1_take tw_531 dX1_readVelocity_3 rfl rfl rfl (by omega) (Nat.le_of_ble_eq_true rfl) (fun μ1 x1 hh => ?_)
  rw [hch] at hh
  obtain ⟨e1, o1, p1, _⟩ := hh
  have eS : (mNeed ch 45 s false).1 = (if ch s = 45 then s + 1 else s) := by
    by_cases hc : ch s = 45
    · rw [mNeed_t hc, if_pos hc]
    · rw [mNeed_f hc, if_neg hc]
  rw [eS] at p1
  have hle : (if ch s = 45 then s + 1 else s) ≤ l := by
    by_cases hc : ch s = 45
    · rw [if_pos hc]
      exact chr_ne (p := μ (4, 0, 0)) (c := 45) (by rw [hch]; exact hc) (by decide)
    · rw [if_neg hc]; exact hs
  have hn := mNum_nn (ch := ch) (lo := 0) (hi := 1500) (s := (if ch s = 45 then s + 1 else s)) (w := false) (by decide)
  refine z_istS_n dX1_readVelocity_6 rfl (by decide) rfl ?_
  refine z_aload_n dX1_readVelocity_7 rfl rfl ?_
  refine z_iconst (v := 0) dX1_readVelocity_8 (by decide) ?_
  refine z_sipush (v := 1500) dX1_readVelocity_9 (by decide) ?_
  refine z_cVs (c_readNumber μ1 p1 hl hle 0 1500 (by decide) (by decide)) q_X1_readNumber tw_535 dX1_readVelocity_12 rfl rfl rfl (by omega) (Nat.le_of_ble_eq_true rfl) (fun μ2 x2 hh => ?_)
  rw [o1.1.at (4, 0, 0), hch] at hh
  generalize mNum ch 0 1500 (if ch s = 45 then s + 1 else s) false = n at hR hh hn
  obtain ⟨o2, p2, e2⟩ := hh
  have o3 : pX [7] μ μ2 := o1.x.tr (js' := [7]) o2.x (by simp)
  have fin : ∀ (v : Int32), v = (if ch s = 45 then -x2 else x2) → Z K 4 "DyeTank$Pad" prog_3_method_6_code 3 27 [zR (3, 0, 0), zI x1, zI x2] [zI v, zR (3, 0, 0)] μ2 := by
    intro v ev
    refine zp_X1_number dX1_readVelocity_27 tw_137 ?_
    refine z_iload_n dX1_readVelocity_30 rfl rfl ?_
    by_cases hw : n.2.2 = true
    · rw [if_pos hw] at e2
      refine z_if_lt (tgt := 38) dX1_readVelocity_31 (by decide) (fun _ => ?_) (fun h9 => absurd ((by rw [e2]; decide)) h9)
      refine z_iconst (v := 0) dX1_readVelocity_38 (by decide) ?_
      refine z_bret hR dX1_readVelocity_39 (Or.inl rfl) ⟨_, rfl, (zb_f (fun q => q hw)).symm, o3.tr (pX_put μ2 (js := [7]) _ (by simp)) (by simp), p2.put (by decide) _, fun q => absurd (hw.symm.trans q) (by decide)⟩
    · rw [if_neg hw] at e2
      refine z_if_lt (tgt := 38) dX1_readVelocity_31 (by decide) (fun h9 => absurd h9 (Int32.not_lt.mpr (by rw [e2]; exact hn))) (fun _ => ?_)
      refine z_iconst (v := 1) dX1_readVelocity_34 (by decide) ?_
      refine z_goto (tgt := 39) dX1_readVelocity_35 (by decide) ?_
      refine z_bret hR dX1_readVelocity_39 (Or.inr rfl) ⟨_, rfl, (zb_t hw).symm, o3.tr (pX_put μ2 (js := [7]) _ (by simp)) (by simp), p2.put (by decide) _, fun q => ?_⟩
      rw [st_at3, ev, e2]
  refine z_istS_n dX1_readVelocity_15 rfl (by decide) rfl ?_
  refine z_aload_n dX1_readVelocity_16 rfl rfl ?_
  refine z_iload_n dX1_readVelocity_17 rfl rfl ?_
  rw [e1]
  refine z_beq (tgt := 26) dX1_readVelocity_18 (by decide) (fun hc => ?_) (fun hc => ?_)
  · refine z_iload_n dX1_readVelocity_26 rfl rfl ?_
    rw [← e1]
    exact fin _ (if_neg hc).symm
  · refine z_iload_n dX1_readVelocity_21 rfl rfl ?_
    refine z_ineg dX1_readVelocity_22 ?_
    refine z_goto (tgt := 27) dX1_readVelocity_23 (by decide) ?_
    rw [← e1]
    exact fin _ (if_pos hc).symm
theorem velP_1 {ch : Nat → Int32} {s p1 : Nat} {x1 : Int32} (e1 : mNum ch 0 11 s false = (x1, p1, true)) : (velP ch s false).1 = p1 ∧ (velP ch s false).2.1 = true := by
  have hn : negV ch (p1, true) = false := decide_eq_false (fun q => q.1 rfl)
  unfold velP
  simp [e1, mNeed_w, hn, mNum_w]
theorem velP_2 {ch : Nat → Int32} {s p1 p2 : Nat} {x1 : Int32} (e1 : mNum ch 0 11 s false = (x1, p1, false)) (e2 : mNeed ch 58 p1 false = (p2, true)) : (velP ch s false).1 = p2 ∧ (velP ch s false).2.1 = true := by
  have hn : negV ch (p2, true) = false := decide_eq_false (fun q => q.1 rfl)
  unfold velP
  simp [e1, e2, hn, mNum_w]
theorem velP_3 {ch : Nat → Int32} {s p1 p2 : Nat} {x1 : Int32} (e1 : mNum ch 0 11 s false = (x1, p1, false)) (e2 : mNeed ch 58 p1 false = (p2, false)) : velP ch s false = ((mNum ch 0 1500 (if ch p2 = 45 then p2 + 1 else p2) false).2.1, (mNum ch 0 1500 (if ch p2 = 45 then p2 + 1 else p2) false).2.2, x1, if ch p2 = 45 then -(mNum ch 0 1500 (if ch p2 = 45 then p2 + 1 else p2) false).1 else (mNum ch 0 1500 (if ch p2 = 45 then p2 + 1 else p2) false).1) := by
  have hn : (negV ch (p2, false) = true) ↔ ch p2 = 45 := by
    unfold negV
    rw [decide_eq_true_iff]
    exact ⟨fun q => q.2, fun q => ⟨fun h => absurd (show false = true from h) (by decide), q⟩⟩
  unfold velP
  simp only [e1, e2, hn]
theorem dyeP_1 {ch : Nat → Int32} {s p1 : Nat} (e1 : mOne ch 97 99 s false = (p1, true)) : (dyeP ch s false).1 = p1 ∧ (dyeP ch s false).2.1 = true := by
  unfold dyeP
  simp [e1, mOne_w, mNeed_w, mNum_w]
theorem dyeP_2 {ch : Nat → Int32} {s p1 p2 : Nat} (e1 : mOne ch 97 99 s false = (p1, false)) (e2 : mOne ch 94 95 p1 false = (p2, true)) : (dyeP ch s false).1 = p2 ∧ (dyeP ch s false).2.1 = true := by
  unfold dyeP
  simp [e1, e2, mNeed_w, mNum_w]
theorem dyeP_3 {ch : Nat → Int32} {s p1 p2 p3 : Nat} {x3 : Int32} (e1 : mOne ch 97 99 s false = (p1, false)) (e2 : mOne ch 94 95 p1 false = (p2, false)) (e3 : mNum ch 0 11 p2 false = (x3, p3, true)) : (dyeP ch s false).1 = p3 ∧ (dyeP ch s false).2.1 = true := by
  unfold dyeP
  simp [e1, e2, e3, mNeed_w, mNum_w]
theorem dyeP_4 {ch : Nat → Int32} {s p1 p2 p3 p4 : Nat} {x3 : Int32} (e1 : mOne ch 97 99 s false = (p1, false)) (e2 : mOne ch 94 95 p1 false = (p2, false)) (e3 : mNum ch 0 11 p2 false = (x3, p3, false)) (e4 : mNeed ch 58 p3 false = (p4, true)) : (dyeP ch s false).1 = p4 ∧ (dyeP ch s false).2.1 = true := by
  unfold dyeP
  simp [e1, e2, e3, e4, mNeed_w, mNum_w]
theorem dyeP_5 {ch : Nat → Int32} {s p1 p2 p3 p4 p5 : Nat} {x3 x5 : Int32} (e1 : mOne ch 97 99 s false = (p1, false)) (e2 : mOne ch 94 95 p1 false = (p2, false)) (e3 : mNum ch 0 11 p2 false = (x3, p3, false)) (e4 : mNeed ch 58 p3 false = (p4, false)) (e5 : mNum ch 0 23 p4 false = (x5, p5, true)) : (dyeP ch s false).1 = p5 ∧ (dyeP ch s false).2.1 = true := by
  unfold dyeP
  simp [e1, e2, e3, e4, e5, mNeed_w, mNum_w]
theorem dyeP_6 {ch : Nat → Int32} {s p1 p2 p3 p4 p5 p6 : Nat} {x3 x5 : Int32} (e1 : mOne ch 97 99 s false = (p1, false)) (e2 : mOne ch 94 95 p1 false = (p2, false)) (e3 : mNum ch 0 11 p2 false = (x3, p3, false)) (e4 : mNeed ch 58 p3 false = (p4, false)) (e5 : mNum ch 0 23 p4 false = (x5, p5, false)) (e6 : mNeed ch 61 p5 false = (p6, true)) : (dyeP ch s false).1 = p6 ∧ (dyeP ch s false).2.1 = true := by
  unfold dyeP
  simp [e1, e2, e3, e4, e5, e6, mNum_w]
theorem dyeP_7 {ch : Nat → Int32} {s p1 p2 p3 p4 p5 p6 p7 : Nat} {x3 x5 x7 : Int32} {b : Bool} (e1 : mOne ch 97 99 s false = (p1, false)) (e2 : mOne ch 94 95 p1 false = (p2, false)) (e3 : mNum ch 0 11 p2 false = (x3, p3, false)) (e4 : mNeed ch 58 p3 false = (p4, false)) (e5 : mNum ch 0 23 p4 false = (x5, p5, false)) (e6 : mNeed ch 61 p5 false = (p6, false)) (e7 : mNum ch 1 999999 p6 false = (x7, p7, b)) : dyeP ch s false = (p7, b, ch s - 97, ch p1 - 94, x3, x5, x7) := by
  unfold dyeP
  simp only [e1, e2, e3, e4, e5, e6, e7]
