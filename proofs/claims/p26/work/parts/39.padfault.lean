/-! the component reads a step; the first fault -/
def FLD (f : Nat → Int32) (L : List Int32) : Prop := f 2 = L.getD 0 0 ∧ (L.getD 0 0 = 116 → f 7 = L.getD 1 0) ∧ (L.getD 0 0 = 118 → f 5 = L.getD 1 0 ∧ f 7 = L.getD 2 0) ∧ (L.getD 0 0 = 100 → f 3 = L.getD 1 0 ∧ f 4 = L.getD 2 0 ∧ f 5 = L.getD 3 0 ∧ f 6 = L.getD 4 0 ∧ f 7 = L.getD 5 0)
theorem c_readStep (μ : zM) {l s : Nat} (h : PD μ l s) (hl : l ≤ 60) (hs : s ≤ l) : zCs yX1_readStep prog_3_method_4_code 1 (some .boolean) 5 [zR (3, 0, 0)] μ (fun μ' r => r = zb (¬ (stepP (chr (μ (4, 0, 0)) l) s).2.1 = true) ∧ zoff [(3, 0, 0)] μ μ' ∧ PD μ' l (stepP (chr (μ (4, 0, 0)) l) s).1 ∧ ((stepP (chr (μ (4, 0, 0)) l) s).2.1 = false → FLD (μ' (3, 0, 0)) (stepP (chr (μ (4, 0, 0)) l) s).2.2)) := by
  refine zCt.of "DyeTank$Pad" rfl (by decide +kernel) rfl (Nat.le_of_ble_eq_true rfl) (fun K hR => ?_)
  have v0 := zv_0
  have v1 := zv_1
  have v2 := zv_2
  have v3 := zv_3
  have v4 := zv_4
  obtain ⟨q0, hq0, eq0⟩ := chr_ex (s := s) hl h.2.2
  generalize hch : chr (μ (4, 0, 0)) l = ch at hR eq0 ⊢
  have post0 : ∀ (p : Nat) (μ' : zM), zoff [(3, 0, 0)] μ μ' → PD μ' l p → (stepP ch s).1 = p → (stepP ch s).2.1 = true → ∃ x, zI 0 = zI x ∧ (x = zb (¬ (stepP ch s).2.1 = true) ∧ zoff [(3, 0, 0)] μ μ' ∧ PD μ' l (stepP ch s).1 ∧ ((stepP ch s).2.1 = false → FLD (μ' (3, 0, 0)) (stepP ch s).2.2)) := by
    intro p μ' ho hP h1 h2
    exact ⟨0, rfl, (zb_f (fun q => q h2)).symm, ho, by rw [h1]; exact hP, fun q => absurd (h2.symm.trans q) (by decide)⟩
  have post1 : ∀ (p : Nat) (μ' : zM), zoff [(3, 0, 0)] μ μ' → PD μ' l p → (stepP ch s).1 = p → (stepP ch s).2.1 = false → FLD (μ' (3, 0, 0)) (stepP ch s).2.2 → ∃ x, zI 1 = zI x ∧ (x = zb (¬ (stepP ch s).2.1 = true) ∧ zoff [(3, 0, 0)] μ μ' ∧ PD μ' l (stepP ch s).1 ∧ ((stepP ch s).2.1 = false → FLD (μ' (3, 0, 0)) (stepP ch s).2.2)) := by
    intro p μ' ho hP h1 h2 hF
    exact ⟨1, rfl, (zb_t (by rw [h2]; decide)).symm, ho, by rw [h1]; exact hP, fun _ => hF⟩
  refine z_ls (ls' := [zR (3, 0, 0)]) rfl ?_
  refine z_aload_n dX1_readStep_0 rfl rfl ?_
  refine z_aload_n dX1_readStep_1 rfl rfl ?_
  refine z_cVi (c_character μ h hl (by omega)) q_X1_character tw_527 dX1_readStep_2 rfl rfl rfl (by omega) (Nat.le_of_ble_eq_true rfl) ?_
  rw [hch]
  refine zp_X1_kind dX1_readStep_5 tw_127 (by rw [eq0]; exact (pk_charN hq0).1) (by rw [eq0]; exact (pk_charN hq0).2) ?_
  have o0 : zoff [(3, 0, 0)] μ (st μ (3, 0, 0) (upd (μ (3, 0, 0)) 2 (ch s))) := zoff.rf.put (by simp) _
  have p0 : PD (st μ (3, 0, 0) (upd (μ (3, 0, 0)) 2 (ch s))) l s := h.put (by decide) _
  have k0 := st_at3 μ 2 (ch s)
  generalize st μ (3, 0, 0) (upd (μ (3, 0, 0)) 2 (ch s)) = ν at o0 p0 k0 ⊢
  refine z_aload_n dX1_readStep_8 rfl rfl ?_
  refine z_bipush (v := 116) dX1_readStep_9 (by decide) ?_
  refine z_cVs (c_take ν p0 hl (by omega) 116) q_X1_take tw_531 dX1_readStep_11 rfl rfl rfl (by omega) (Nat.le_of_ble_eq_true rfl) (fun μ1 x1 hh => ?_)
  rw [o0.at (4, 0, 0), hch] at hh
  obtain ⟨e1, o1, p1, _⟩ := hh
  rw [e1]
  have t1 := zoff.tr o0 o1.1 (by simp)
  have k1 := (o1.2 2 (by omega)).trans k0
  have c1 : chr (μ1 (4, 0, 0)) l = ch := by rw [t1.at (4, 0, 0), hch]
  refine z_beq (tgt := 42) dX1_readStep_14 (by decide) (fun h1 => ?_) (fun h1 => ?_)
  · rw [mNeed_f h1] at p1
    refine z_aload_n dX1_readStep_42 rfl rfl ?_
    refine z_bipush (v := 118) dX1_readStep_43 (by decide) ?_
    refine z_cVs (c_take μ1 p1 hl (by omega) 118) q_X1_take tw_531 dX1_readStep_45 rfl rfl rfl (by omega) (Nat.le_of_ble_eq_true rfl) (fun μ2 x2 hh => ?_)
    rw [c1] at hh
    obtain ⟨e2, o2, p2, _⟩ := hh
    rw [e2]
    have t2 := zoff.tr t1 o2.1 (by simp)
    have k2 := (o2.2 2 (by omega)).trans k1
    have c2 : chr (μ2 (4, 0, 0)) l = ch := by rw [t2.at (4, 0, 0), hch]
    refine z_beq (tgt := 80) dX1_readStep_48 (by decide) (fun h2 => ?_) (fun h2 => ?_)
    · rw [mNeed_f h2] at p2
      have fail : ∀ (p : Nat) (μ' : zM), zoff [(3, 0, 0)] μ μ' → PD μ' l p → (stepP ch s).1 = p → (stepP ch s).2.1 = true → Z K 5 "DyeTank$Pad" prog_3_method_4_code 1 146 [zR (3, 0, 0)] [] μ' := by
        intro p μ' ho hP g1 g2
        refine z_iconst (v := 0) dX1_readStep_146 (by decide) ?_
        refine z_bret hR dX1_readStep_147 (Or.inl rfl) (post0 p μ' ho hP g1 g2)
      refine z_aload_n dX1_readStep_80 rfl rfl ?_
      refine z_bipush (v := 100) dX1_readStep_81 (by decide) ?_
      refine z_cVs (c_take μ2 p2 hl (by omega) 100) q_X1_take tw_531 dX1_readStep_83 rfl rfl rfl (by omega) (Nat.le_of_ble_eq_true rfl) (fun μ3 x3 hh => ?_)
      rw [c2] at hh
      obtain ⟨e3, o3, p3, _⟩ := hh
      rw [e3]
      have t3 := zoff.tr t2 o3.1 (by simp)
      have k3 := (o3.2 2 (by omega)).trans k2
      have c3 : chr (μ3 (4, 0, 0)) l = ch := by rw [t3.at (4, 0, 0), hch]
      refine z_beq (tgt := 146) dX1_readStep_86 (by decide) (fun h3 => ?_) (fun h3 => ?_)
      · rw [mNeed_f h3] at p3
        have eS : stepP ch s = (s, true, []) := (if_neg h1).trans ((if_neg h2).trans (if_neg h3))
        exact fail s μ3 t3 p3 (by rw [eS]) (by rw [eS])
      · rw [mNeed_t h3] at p3
        have eS : stepP ch s = ((dyeP ch (s + 1) false).1, (dyeP ch (s + 1) false).2.1, [100, (dyeP ch (s + 1) false).2.2.1, (dyeP ch (s + 1) false).2.2.2.1, (dyeP ch (s + 1) false).2.2.2.2.1, (dyeP ch (s + 1) false).2.2.2.2.2.1, (dyeP ch (s + 1) false).2.2.2.2.2.2]) := (if_neg h1).trans ((if_neg h2).trans (if_pos h3))
        have l3 : s + 1 ≤ l := chr_ne (p := μ (4, 0, 0)) (c := 100) (by rw [hch]; exact h3) (by decide)
        refine z_aload_n dX1_readStep_89 rfl rfl ?_
        refine z_cVs (c_readColour μ3 p3 hl l3) q_X1_readColour tw_551 dX1_readStep_90 rfl rfl rfl (by omega) (Nat.le_of_ble_eq_true rfl) (fun μ4 x4 hh => ?_)
        rw [c3] at hh
        have l4 : (mOne ch 97 99 (s + 1) false).1 ≤ l := by rw [← hch]; exact mOne_le (by decide) l3
        rcases q4 : mOne ch 97 99 (s + 1) false with ⟨s4, w4⟩
        simp only [q4] at hh l4
        obtain ⟨e4, o4, p4, f4⟩ := hh
        have t4 := zoff.tr t3 o4.1 (by simp)
        have k4 := (o4.2 2 (by omega) (by decide)).trans k3
        have c4 : chr (μ4 (4, 0, 0)) l = ch := by rw [t4.at (4, 0, 0), hch]
        rw [e4]
        refine z_beq (tgt := 146) dX1_readStep_93 (by decide) (fun b4 => ?_) (fun b4 => ?_)
        · have b4 : w4 = true := Decidable.not_not.mp b4
          subst b4
          exact fail s4 μ4 t4 p4 (by rw [eS]; exact (dyeP_1 q4).1) (by rw [eS]; exact (dyeP_1 q4).2)
        · have b4 : w4 = false := Bool.eq_false_iff.mpr b4
          subst b4
          refine z_aload_n dX1_readStep_96 rfl rfl ?_
          refine z_cVs (c_readLayer μ4 p4 hl l4) q_X1_readLayer tw_555 dX1_readStep_97 rfl rfl rfl (by omega) (Nat.le_of_ble_eq_true rfl) (fun μ5 x5 hh => ?_)
          rw [c4] at hh
          have l5 : (mOne ch 94 95 s4 false).1 ≤ l := by rw [← hch]; exact mOne_le (by decide) l4
          rcases q5 : mOne ch 94 95 s4 false with ⟨s5, w5⟩
          simp only [q5] at hh l5
          obtain ⟨e5, o5, p5, f5⟩ := hh
          have t5 := zoff.tr t4 o5.1 (by simp)
          have k5 := (o5.2 2 (by omega) (by decide)).trans k4
          have g3 := (o5.2 3 (by omega) (by decide)).trans (f4 rfl)
          have c5 : chr (μ5 (4, 0, 0)) l = ch := by rw [t5.at (4, 0, 0), hch]
          rw [e5]
          refine z_beq (tgt := 146) dX1_readStep_100 (by decide) (fun b5 => ?_) (fun b5 => ?_)
          · have b5 : w5 = true := Decidable.not_not.mp b5
            subst b5
            exact fail s5 μ5 t5 p5 (by rw [eS]; exact (dyeP_2 q4 q5).1) (by rw [eS]; exact (dyeP_2 q4 q5).2)
          · have b5 : w5 = false := Bool.eq_false_iff.mpr b5
            subst b5
            have f5 := f5 rfl
            refine z_aload_n dX1_readStep_103 rfl rfl ?_
            refine z_cVs (c_readRing μ5 p5 hl l5) q_X1_readRing tw_543 dX1_readStep_104 rfl rfl rfl (by omega) (Nat.le_of_ble_eq_true rfl) (fun μ6 x6 hh => ?_)
            rw [c5] at hh
            have l6 : (mNum ch 0 11 s5 false).2.1 ≤ l := by rw [← hch]; exact mNum_le l5
            rcases q6 : mNum ch 0 11 s5 false with ⟨v6, s6, w6⟩
            simp only [q6] at hh l6
            obtain ⟨e6, o6, p6, f6⟩ := hh
            have t6 := zoff.tr t5 o6.1 (by simp)
            have k6 := (o6.2 2 (by omega) (by decide)).trans k5
            have g3 := (o6.2 3 (by omega) (by decide)).trans g3
            have g4 := (o6.2 4 (by omega) (by decide)).trans f5
            have c6 : chr (μ6 (4, 0, 0)) l = ch := by rw [t6.at (4, 0, 0), hch]
            rw [e6]
            refine z_beq (tgt := 146) dX1_readStep_107 (by decide) (fun b6 => ?_) (fun b6 => ?_)
            · have b6 : w6 = true := Decidable.not_not.mp b6
              subst b6
              exact fail s6 μ6 t6 p6 (by rw [eS]; exact (dyeP_3 q4 q5 q6).1) (by rw [eS]; exact (dyeP_3 q4 q5 q6).2)
            · have b6 : w6 = false := Bool.eq_false_iff.mpr b6
              subst b6
              have f6 := f6 rfl
              refine z_aload_n dX1_readStep_110 rfl rfl ?_
              refine z_bipush (v := 58) dX1_readStep_111 (by decide) ?_
              refine z_cVs (c_take μ6 p6 hl (by omega) 58) q_X1_take tw_531 dX1_readStep_113 rfl rfl rfl (by omega) (Nat.le_of_ble_eq_true rfl) (fun μ7 x7 hh => ?_)
              rw [c6] at hh
              have l7 : (mNeed ch 58 s6 false).1 ≤ l := by rw [← hch]; exact mNeed_le (by decide) l6
              rcases q7 : mNeed ch 58 s6 false with ⟨s7, w7⟩
              simp only [q7] at hh l7
              obtain ⟨e7, o7, p7, w7e⟩ := hh
              have t7 := zoff.tr t6 o7.1 (by simp)
              have k7 := (o7.2 2 (by omega)).trans k6
              have g3 := (o7.2 3 (by omega)).trans g3
              have g4 := (o7.2 4 (by omega)).trans g4
              have g5 := (o7.2 5 (by omega)).trans f6
              have c7 : chr (μ7 (4, 0, 0)) l = ch := by rw [t7.at (4, 0, 0), hch]
              rw [e7]
              refine z_beq (tgt := 146) dX1_readStep_116 (by decide) (fun b7 => ?_) (fun b7 => ?_)
              · have b7 : w7 = true := by rw [w7e]; exact decide_eq_true b7
                subst b7
                exact fail s7 μ7 t7 p7 (by rw [eS]; exact (dyeP_4 q4 q5 q6 q7).1) (by rw [eS]; exact (dyeP_4 q4 q5 q6 q7).2)
              · have b7 : w7 = false := by rw [w7e]; exact decide_eq_false (fun q => q b7)
                subst b7
                refine z_aload_n dX1_readStep_119 rfl rfl ?_
                refine z_cVs (c_readSector μ7 p7 hl l7) q_X1_readSector tw_559 dX1_readStep_120 rfl rfl rfl (by omega) (Nat.le_of_ble_eq_true rfl) (fun μ8 x8 hh => ?_)
                rw [c7] at hh
                have l8 : (mNum ch 0 23 s7 false).2.1 ≤ l := by rw [← hch]; exact mNum_le l7
                rcases q8 : mNum ch 0 23 s7 false with ⟨v8, s8, w8⟩
                simp only [q8] at hh l8
                obtain ⟨e8, o8, p8, f8⟩ := hh
                have t8 := zoff.tr t7 o8.1 (by simp)
                have k8 := (o8.2 2 (by omega) (by decide)).trans k7
                have g3 := (o8.2 3 (by omega) (by decide)).trans g3
                have g4 := (o8.2 4 (by omega) (by decide)).trans g4
                have g5 := (o8.2 5 (by omega) (by decide)).trans g5
                have c8 : chr (μ8 (4, 0, 0)) l = ch := by rw [t8.at (4, 0, 0), hch]
                rw [e8]
                refine z_beq (tgt := 146) dX1_readStep_123 (by decide) (fun b8 => ?_) (fun b8 => ?_)
                · have b8 : w8 = true := Decidable.not_not.mp b8
                  subst b8
                  exact fail s8 μ8 t8 p8 (by rw [eS]; exact (dyeP_5 q4 q5 q6 q7 q8).1) (by rw [eS]; exact (dyeP_5 q4 q5 q6 q7 q8).2)
                · have b8 : w8 = false := Bool.eq_false_iff.mpr b8
                  subst b8
                  have f8 := f8 rfl
                  refine z_aload_n dX1_readStep_126 rfl rfl ?_
                  refine z_bipush (v := 61) dX1_readStep_127 (by decide) ?_
                  refine z_cVs (c_take μ8 p8 hl (by omega) 61) q_X1_take tw_531 dX1_readStep_129 rfl rfl rfl (by omega) (Nat.le_of_ble_eq_true rfl) (fun μ9 x9 hh => ?_)
                  rw [c8] at hh
                  have l9 : (mNeed ch 61 s8 false).1 ≤ l := by rw [← hch]; exact mNeed_le (by decide) l8
                  rcases q9 : mNeed ch 61 s8 false with ⟨s9, w9⟩
                  simp only [q9] at hh l9
                  obtain ⟨e9, o9, p9, w9e⟩ := hh
                  have t9 := zoff.tr t8 o9.1 (by simp)
                  have k9 := (o9.2 2 (by omega)).trans k8
                  have g3 := (o9.2 3 (by omega)).trans g3
                  have g4 := (o9.2 4 (by omega)).trans g4
                  have g5 := (o9.2 5 (by omega)).trans g5
                  have g6 := (o9.2 6 (by omega)).trans f8
                  have c9 : chr (μ9 (4, 0, 0)) l = ch := by rw [t9.at (4, 0, 0), hch]
                  rw [e9]
                  refine z_beq (tgt := 146) dX1_readStep_132 (by decide) (fun b9 => ?_) (fun b9 => ?_)
                  · have b9 : w9 = true := by rw [w9e]; exact decide_eq_true b9
                    subst b9
                    exact fail s9 μ9 t9 p9 (by rw [eS]; exact (dyeP_6 q4 q5 q6 q7 q8 q9).1) (by rw [eS]; exact (dyeP_6 q4 q5 q6 q7 q8 q9).2)
                  · have b9 : w9 = false := by rw [w9e]; exact decide_eq_false (fun q => q b9)
                    subst b9
                    refine z_aload_n dX1_readStep_135 rfl rfl ?_
                    refine z_cVs (c_readAmount μ9 p9 hl l9) q_X1_readAmount tw_563 dX1_readStep_136 rfl rfl rfl (by omega) (Nat.le_of_ble_eq_true rfl) (fun μ10 x10 hh => ?_)
                    rw [c9] at hh
                    rcases q10 : mNum ch 1 999999 s9 false with ⟨v10, s10, w10⟩
                    simp only [q10] at hh
                    obtain ⟨e10, o10, p10, f10⟩ := hh
                    have t10 := zoff.tr t9 o10.1 (by simp)
                    have k10 := (o10.2 2 (by omega) (by decide)).trans k9
                    have g3 := (o10.2 3 (by omega) (by decide)).trans g3
                    have g4 := (o10.2 4 (by omega) (by decide)).trans g4
                    have g5 := (o10.2 5 (by omega) (by decide)).trans g5
                    have g6 := (o10.2 6 (by omega) (by decide)).trans g6
                    have eD := dyeP_7 q4 q5 q6 q7 q8 q9 q10
                    rw [eD] at eS
                    rw [e10]
                    refine z_beq (tgt := 146) dX1_readStep_139 (by decide) (fun b10 => ?_) (fun b10 => ?_)
                    · have b10 : w10 = true := Decidable.not_not.mp b10
                      exact fail s10 μ10 t10 p10 (by rw [eS]) (by rw [eS]; exact b10)
                    · have b10 : w10 = false := Bool.eq_false_iff.mpr b10
                      have g7 := f10 b10
                      refine z_iconst (v := 1) dX1_readStep_142 (by decide) ?_
                      refine z_goto (tgt := 147) dX1_readStep_143 (by decide) ?_
                      refine z_bret hR dX1_readStep_147 (Or.inr rfl) (post1 s10 μ10 t10 p10 (by rw [eS]) (by rw [eS]; exact b10) ?_)
                      rw [eS]
                      exact ⟨k10.trans h3, fun q => absurd (show (100 : Int32) = 116 from q) (by decide), fun q => absurd (show (100 : Int32) = 118 from q) (by decide), fun _ => ⟨g3, g4, g5, g6, g7⟩⟩
    · rw [mNeed_t h2] at p2
      have eS : stepP ch s = ((velP ch (s + 1) false).1, (velP ch (s + 1) false).2.1, [118, (velP ch (s + 1) false).2.2.1, (velP ch (s + 1) false).2.2.2]) := (if_neg h1).trans (if_pos h2)
      have l2 : s + 1 ≤ l := chr_ne (p := μ (4, 0, 0)) (c := 118) (by rw [hch]; exact h2) (by decide)
      have fail : ∀ (p : Nat) (μ' : zM), zoff [(3, 0, 0)] μ μ' → PD μ' l p → (stepP ch s).1 = p → (stepP ch s).2.1 = true → Z K 5 "DyeTank$Pad" prog_3_method_4_code 1 78 [zR (3, 0, 0)] [] μ' := by
        intro p μ' ho hP g1 g2
        refine z_iconst (v := 0) dX1_readStep_78 (by decide) ?_
        refine z_bret hR dX1_readStep_79 (Or.inl rfl) (post0 p μ' ho hP g1 g2)
      refine z_aload_n dX1_readStep_51 rfl rfl ?_
      refine z_cVs (c_readRing μ2 p2 hl l2) q_X1_readRing tw_543 dX1_readStep_52 rfl rfl rfl (by omega) (Nat.le_of_ble_eq_true rfl) (fun μ3 x3 hh => ?_)
      rw [c2] at hh
      have l3 : (mNum ch 0 11 (s + 1) false).2.1 ≤ l := by rw [← hch]; exact mNum_le l2
      rcases q3 : mNum ch 0 11 (s + 1) false with ⟨v3, s3, w3⟩
      simp only [q3] at hh l3
      obtain ⟨e3, o3, p3, f3⟩ := hh
      have t3 := zoff.tr t2 o3.1 (by simp)
      have k3 := (o3.2 2 (by omega) (by decide)).trans k2
      have c3 : chr (μ3 (4, 0, 0)) l = ch := by rw [t3.at (4, 0, 0), hch]
      rw [e3]
      refine z_beq (tgt := 78) dX1_readStep_55 (by decide) (fun b3 => ?_) (fun b3 => ?_)
      · have b3 : w3 = true := Decidable.not_not.mp b3
        subst b3
        exact fail s3 μ3 t3 p3 (by rw [eS]; exact (velP_1 q3).1) (by rw [eS]; exact (velP_1 q3).2)
      · have b3 : w3 = false := Bool.eq_false_iff.mpr b3
        subst b3
        have f3 := f3 rfl
        refine z_aload_n dX1_readStep_58 rfl rfl ?_
        refine z_bipush (v := 58) dX1_readStep_59 (by decide) ?_
        refine z_cVs (c_take μ3 p3 hl (by omega) 58) q_X1_take tw_531 dX1_readStep_61 rfl rfl rfl (by omega) (Nat.le_of_ble_eq_true rfl) (fun μ4 x4 hh => ?_)
        rw [c3] at hh
        have l4 : (mNeed ch 58 s3 false).1 ≤ l := by rw [← hch]; exact mNeed_le (by decide) l3
        rcases q4 : mNeed ch 58 s3 false with ⟨s4, w4⟩
        simp only [q4] at hh l4
        obtain ⟨e4, o4, p4, w4e⟩ := hh
        have t4 := zoff.tr t3 o4.1 (by simp)
        have k4 := (o4.2 2 (by omega)).trans k3
        have g5 := (o4.2 5 (by omega)).trans f3
        have c4 : chr (μ4 (4, 0, 0)) l = ch := by rw [t4.at (4, 0, 0), hch]
        rw [e4]
        refine z_beq (tgt := 78) dX1_readStep_64 (by decide) (fun b4 => ?_) (fun b4 => ?_)
        · have b4 : w4 = true := by rw [w4e]; exact decide_eq_true b4
          subst b4
          exact fail s4 μ4 t4 p4 (by rw [eS]; exact (velP_2 q3 q4).1) (by rw [eS]; exact (velP_2 q3 q4).2)
        · have b4 : w4 = false := by rw [w4e]; exact decide_eq_false (fun q => q b4)
          subst b4
          refine z_aload_n dX1_readStep_67 rfl rfl ?_
          refine z_cVs (c_readVelocity μ4 p4 hl l4) q_X1_readVelocity tw_547 dX1_readStep_68 rfl rfl rfl (by omega) (Nat.le_of_ble_eq_true rfl) (fun μ5 x5 hh => ?_)
          rw [c4] at hh
          obtain ⟨e5, o5, p5, f5⟩ := hh
          have t5 := zoff.tr t4 o5.1 (by simp)
          have k5 := (o5.2 2 (by omega) (by decide)).trans k4
          have g5 := (o5.2 5 (by omega) (by decide)).trans g5
          rw [velP_3 q3 q4] at eS
          rw [e5]
          refine z_beq (tgt := 78) dX1_readStep_71 (by decide) (fun b5 => ?_) (fun b5 => ?_)
          · exact fail _ μ5 t5 p5 (by rw [eS]) (by rw [eS]; exact Decidable.not_not.mp b5)
          · have b5 := Bool.eq_false_iff.mpr b5
            refine z_iconst (v := 1) dX1_readStep_74 (by decide) ?_
            refine z_goto (tgt := 79) dX1_readStep_75 (by decide) ?_
            refine z_bret hR dX1_readStep_79 (Or.inr rfl) (post1 _ μ5 t5 p5 (by rw [eS]) (by rw [eS]; exact b5) ?_)
            rw [eS]
            exact ⟨k5.trans h2, fun q => absurd (show (118 : Int32) = 116 from q) (by decide), fun _ => ⟨g5, f5 b5⟩, fun q => absurd (show (118 : Int32) = 100 from q) (by decide)⟩
  · rw [mNeed_t h1] at p1
    have eS : stepP ch s = ((mNum ch 1 999 (s + 1) false).2.1, (mNum ch 1 999 (s + 1) false).2.2, [116, (mNum ch 1 999 (s + 1) false).1]) := if_pos h1
    have l1 : s + 1 ≤ l := chr_ne (p := μ (4, 0, 0)) (c := 116) (by rw [hch]; exact h1) (by decide)
    have hn := mNum_nn (ch := ch) (lo := 1) (hi := 999) (s := s + 1) (w := false) (by decide)
    refine z_aload_n dX1_readStep_17 rfl rfl ?_
    refine z_aload_n dX1_readStep_18 rfl rfl ?_
    refine z_iconst (v := 1) dX1_readStep_19 (by decide) ?_
    refine z_sipush (v := 999) dX1_readStep_20 (by decide) ?_
    refine z_cVs (c_readNumber μ1 p1 hl l1 1 999 (by decide) (by decide)) q_X1_readNumber tw_535 dX1_readStep_23 rfl rfl rfl (by omega) (Nat.le_of_ble_eq_true rfl) (fun μ2 x2 hh => ?_)
    rw [c1] at hh
    obtain ⟨o2, p2, e2⟩ := hh
    have t2 := zoff.tr t1 o2.1 (by simp)
    have k2 := (o2.2 2 (by omega)).trans k1
    refine zp_X1_number dX1_readStep_26 tw_137 ?_
    refine z_aload_n dX1_readStep_29 rfl rfl ?_
    refine zg_X1_number dX1_readStep_30 tw_137 ?_
    rw [st_at3]
    by_cases hw : (mNum ch 1 999 (s + 1) false).2.2 = true
    · rw [if_pos hw] at e2
      refine z_if_lt (tgt := 40) dX1_readStep_33 (by decide) (fun _ => ?_) (fun h9 => absurd ((by rw [e2]; decide)) h9)
      refine z_iconst (v := 0) dX1_readStep_40 (by decide) ?_
      refine z_bret hR dX1_readStep_41 (Or.inl rfl) (post0 _ _ (t2.put (by simp) _) (p2.put (by decide) _) (by rw [eS]) (by rw [eS]; exact hw))
    · rw [if_neg hw] at e2
      refine z_if_lt (tgt := 40) dX1_readStep_33 (by decide) (fun h9 => absurd h9 (Int32.not_lt.mpr (by rw [e2]; exact hn))) (fun _ => ?_)
      refine z_iconst (v := 1) dX1_readStep_36 (by decide) ?_
      refine z_goto (tgt := 41) dX1_readStep_37 (by decide) ?_
      refine z_bret hR dX1_readStep_41 (Or.inr rfl) (post1 _ _ (t2.put (by simp) _) (p2.put (by decide) _) (by rw [eS]) (by rw [eS]; exact Bool.eq_false_iff.mpr hw) ?_)
      rw [eS, st_eq]
      exact ⟨(if_neg (by decide)).trans (k2.trans h1), fun _ => (if_pos rfl).trans e2, fun q => absurd (show (116 : Int32) = 118 from q) (by decide), fun q => absurd (show (116 : Int32) = 100 from q) (by decide)⟩
