theorem c_firstFault (μ : zM) {l s0 : Nat} (h : PD μ l s0) (hl : l ≤ 60) : zCs yX1_firstFault prog_3_method_3_code 2 (some .int) 6 [zR (3, 0, 0)] μ (fun μ' r => r = fauP (chr (μ (4, 0, 0)) l) l ∧ zoff [(3, 0, 0)] μ μ' ∧ ∃ s', PD μ' l s') := by
  refine zCt.of "DyeTank$Pad" rfl (by decide +kernel) rfl (Nat.le_of_ble_eq_true rfl) (fun K hR => ?_)
  have v0 := zv_0
  have v1 := zv_1
  have v2 := zv_2
  have v3 := zv_3
  have v4 := zv_4
  generalize hch : chr (μ (4, 0, 0)) l = ch at hR ⊢
  have loop : ∀ (f i s : Nat) (μ' : zM), i + f = 21 → s ≤ l → 3 * i ≤ s → zoff [(3, 0, 0)] μ μ' → PD μ' l s → (txtP ch 21 0).1 = (txtP ch f s).1 → (txtP ch 21 0).2.1 = (txtP ch f s).2.1 → Z K 6 "DyeTank$Pad" prog_3_method_3_code 2 7 [zR (3, 0, 0), zI (nI i)] [] μ' := by
    intro f
    induction f with
    | zero => intro i s μ' h1 h2 h3; omega
    | succ f ih =>
      intro i s μ' h1 h2 h3 ho hP hM1 hM2
      have c0 : chr (μ' (4, 0, 0)) l = ch := by rw [ho.at (4, 0, 0), hch]
      have lp : (stepP ch s).1 ≤ l := by rw [← hch]; exact stepP_le h2
      refine z_iload_n dX1_firstFault_7 rfl rfl ?_
      refine z_bipush (v := 60) dX1_firstFault_8 (by decide) ?_
      refine z_icmp_ge (tgt := 59) dX1_firstFault_10 (by decide) (fun h9 => absurd h9 (fun h9 => absurd (nle (a := 60) h9) (by omega))) (fun _ => ?_)
      refine z_aload_n dX1_firstFault_13 rfl rfl ?_
      refine z_cVs (c_readStep μ' hP hl h2) q_X1_readStep tw_475 dX1_firstFault_14 rfl rfl rfl (by omega) (Nat.le_of_ble_eq_true rfl) (fun μ1 x1 hh => ?_)
      rw [c0] at hh
      obtain ⟨e1, o1, p1, _⟩ := hh
      have t1 := zoff.tr ho o1 (by simp)
      have c1 : chr (μ1 (4, 0, 0)) l = ch := by rw [t1.at (4, 0, 0), hch]
      rw [e1]
      have stop : ¬ ((stepP ch s).2.1 = false ∧ ch (stepP ch s).1 = 44) → fauP ch l = if (stepP ch s).2.1 = true ∨ (stepP ch s).1 < l then nI (stepP ch s).1 else -6 := by
        intro hn
        have eT : txtP ch (f + 1) s = ((stepP ch s).1, (stepP ch s).2.1, [(stepP ch s).2.2]) := if_neg hn
        unfold fauP
        rw [hM1, hM2, eT]
      refine z_bne (tgt := 25) dX1_firstFault_17 (by decide) (fun hw => ?_) (fun hw => ?_)
      · refine z_aload_n dX1_firstFault_25 rfl rfl ?_
        refine zg_X1_at dX1_firstFault_26 tw_126 ?_
        refine z_top ((show _ = nI (stepP ch s).1 from p1.2.1)) ?_
        refine z_aload_n dX1_firstFault_29 rfl rfl ?_
        refine zg_X1_length dX1_firstFault_30 tw_124 ?_
        refine z_top ((show _ = nI l from p1.1)) ?_
        have hw2 : (stepP ch s).2.1 = false := Bool.eq_false_iff.mpr hw
        refine z_icmp_ne (tgt := 39) dX1_firstFault_33 (by decide) (fun he => ?_) (fun he => ?_)
        · have hne : ¬ (stepP ch s).1 = l := fun q => he (congrArg nI q)
          refine z_aload_n dX1_firstFault_39 rfl rfl ?_
          refine z_bipush (v := 44) dX1_firstFault_40 (by decide) ?_
          refine z_cVs (c_take μ1 p1 hl (by omega) 44) q_X1_take tw_483 dX1_firstFault_42 rfl rfl rfl (by omega) (Nat.le_of_ble_eq_true rfl) (fun μ2 x2 hh => ?_)
          rw [c1] at hh
          obtain ⟨e2, o2, p2, _⟩ := hh
          have t2 := zoff.tr t1 o2.1 (by simp)
          rw [e2]
          refine z_bne (tgt := 53) dX1_firstFault_45 (by decide) (fun h44 => ?_) (fun h44 => ?_)
          · rw [mNeed_t h44] at p2
            have eT : txtP ch (f + 1) s = _ := if_pos ⟨hw2, h44⟩
            rw [eT] at hM1 hM2
            have hge := stepP_ge hw2
            refine z_incS dX1_firstFault_53 rfl (inc1 _) (by decide) rfl ?_
            refine z_goto (tgt := 7) dX1_firstFault_56 (by decide) ?_
            exact ih (i + 1) ((stepP ch s).1 + 1) μ2 (by omega) (by omega) (by omega) t2 p2 hM1 hM2
          · rw [mNeed_f h44] at p2
            refine z_aload_n dX1_firstFault_48 rfl rfl ?_
            refine zg_X1_at dX1_firstFault_49 tw_126 ?_
            refine z_top ((show _ = nI (stepP ch s).1 from p2.2.1)) ?_
            refine z_iret hR dX1_firstFault_52 (⟨_, rfl, by rw [stop (fun q => h44 q.2)]; exact (if_pos (Or.inr (by omega))).symm, t2, _, p2⟩)
        · have he2 : (stepP ch s).1 = l := (nI_eq (by omega) (by omega)).mp he
          refine z_bipush (v := -6) dX1_firstFault_36 (by decide) ?_
          have h44 : ¬ ch (stepP ch s).1 = 44 := by
            intro q
            have := chr_ne (p := μ (4, 0, 0)) (l := l) (s := (stepP ch s).1) (c := 44) (by rw [hch]; exact q) (by decide)
            omega
          refine z_iret hR dX1_firstFault_38 (⟨_, rfl, by rw [stop (fun q => h44 q.2)]; exact (if_neg (fun q => q.elim hw (fun q => absurd q (by omega)))).symm, t1, _, p1⟩)
      · have hw2 : (stepP ch s).2.1 = true := Decidable.not_not.mp hw
        refine z_aload_n dX1_firstFault_20 rfl rfl ?_
        refine zg_X1_at dX1_firstFault_21 tw_126 ?_
        refine z_top ((show _ = nI (stepP ch s).1 from p1.2.1)) ?_
        refine z_iret hR dX1_firstFault_24 (⟨_, rfl, by rw [stop (fun q => absurd (hw2.symm.trans q.1) (by decide))]; exact (if_pos (Or.inl hw2)).symm, t1, _, p1⟩)
  refine z_ls (ls' := [zR (3, 0, 0), zN]) rfl ?_
  refine z_aload_n dX1_firstFault_0 rfl rfl ?_
  refine z_iconst (v := 0) dX1_firstFault_1 (by decide) ?_
  refine zp_X1_at dX1_firstFault_2 tw_126 ?_
  refine z_iconst (v := 0) dX1_firstFault_5 (by decide) ?_
  refine z_istS_n dX1_firstFault_6 rfl (by decide) rfl ?_
  exact loop 21 0 0 _ rfl (by omega) (by omega) (zoff.rf.put (by simp) _) (h.at 0) rfl rfl
theorem c_append (μ : zM) {l s : Nat} (h : PD μ l s) (hl : l < 60) (x : Int32) (hx : ∃ q, q < 65536 ∧ x = nI q) : zCv yX1_append prog_3_method_2_code 2 (none : Option Jvm.ClassFile.FieldType) 1 [zR (3, 0, 0), zI x] μ (fun μ' => μ' = st (st μ (4, 0, 0) (upd (μ (4, 0, 0)) l x)) (3, 0, 0) (upd (μ (3, 0, 0)) 0 (nI (l + 1)))) := by
  obtain ⟨q, hq, eq⟩ := hx
  refine zCt.of "DyeTank$Pad" rfl (by decide +kernel) rfl (Nat.le_of_ble_eq_true rfl) (fun K hR => ?_)
  have v0 := zv_0
  have v1 := zv_1
  have v2 := zv_2
  have v3 := zv_3
  have v4 := zv_4
  refine z_ls (ls' := [zR (3, 0, 0), zI x]) rfl ?_
  refine z_aload_n dX1_append_0 rfl rfl ?_
  refine zg_X1_length dX1_append_1 tw_124 ?_
  refine z_top ((show _ = nI l from h.1)) ?_
  refine z_if_lt (tgt := 36) dX1_append_4 (by decide) (fun h9 => absurd h9 (Int32.not_lt.mpr (nI_pos' (by omega)))) (fun _ => ?_)
  refine z_aload_n dX1_append_7 rfl rfl ?_
  refine zg_X1_length dX1_append_8 tw_124 ?_
  refine z_top ((show _ = nI l from h.1)) ?_
  refine z_bipush (v := 60) dX1_append_11 (by decide) ?_
  refine z_icmp_ge (tgt := 36) dX1_append_13 (by decide) (fun h9 => absurd h9 (fun h9 => absurd (nle (a := 60) h9) (by omega))) (fun _ => ?_)
  refine z_aload_n dX1_append_16 rfl rfl ?_
  refine zg_X1_text dX1_append_17 tw_140 ?_
  refine z_aload_n dX1_append_20 rfl rfl ?_
  refine zg_X1_length dX1_append_21 tw_124 ?_
  refine z_top ((show _ = nI l from h.1)) ?_
  refine z_iload_n dX1_append_24 rfl rfl ?_
  refine z_cast dX1_append_25 (fun _ _ => rfl) rfl (show l < 60 from hl) (by rw [eq]; unfold vp_nar; rw [(pk_charN hq).1]) ?_
  refine z_aload_n dX1_append_26 rfl rfl ?_
  refine z_dup dX1_append_27 rfl ?_
  refine zg_X1_length dX1_append_28 tw_124 ?_
  refine z_top ((show st μ (4, 0, 0) _ (3, 0, 0) 0 = nI l by rw [st_ne _ _ (by simp)]; exact h.1)) ?_
  refine z_iconst (v := 1) dX1_append_31 (by decide) ?_
  refine z_iadd dX1_append_32 ?_
  refine z_top ((nI_1 l)) ?_
  refine zp_X1_length dX1_append_33 tw_124 ?_
  refine z_vret hR dX1_append_36 (⟨rfl, by rw [st_ne _ _ (by simp)]⟩)
