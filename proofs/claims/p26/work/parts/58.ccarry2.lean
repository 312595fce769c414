def zo3 (μ μ' : zM) : Prop := ∀ b : zA, b ≠ (3, 0, 0) → (b.2.1 ≠ 0 ∨ b.1 < 5 ∨ 18 < b.1) → μ' b = μ b
theorem zo3.tr {μ μ' μ'' : zM} (h : zo3 μ μ') (h' : zo3 μ' μ'') : zo3 μ μ'' := fun b hb hc => (h' b hb hc).trans (h b hb hc)
theorem zoff.zo3 {μ μ' : zM} (h : zoff [(3, 0, 0)] μ μ') : zo3 μ μ' := fun b hb _ => h b (by simpa using hb)
theorem zoT.zo3 {μ μ' : zM} (h : zoT 0 μ μ') : zo3 μ μ' := fun b _ hc => h b hc
theorem Rep_off3 {μ μ' : zM} {t : Nat} {a : Nat → Int32} (h : Rep μ t a) (ho : zoff [(3, 0, 0)] μ μ') : Rep μ' t a := Rep_frame h (fun k i h5 _ => ho (k, t, i) (by simp; omega))
theorem PD_zoT {μ μ' : zM} {l s : Nat} (h : PD μ l s) (ho : zoT 0 μ μ') : PD μ' l s := by
  unfold PD at h ⊢
  rw [ho (3, 0, 0) (Or.inr (Or.inl (by decide))), ho (4, 0, 0) (Or.inr (Or.inl (by decide)))]
  exact h
theorem fau_ok {p : Nat → Int32} {l : Nat} (hl : l ≤ 60) (h : fauP (chr p l) l = -6) : (txtP (chr p l) 21 0).2.1 = false := by
  by_cases q : (txtP (chr p l) 21 0).2.1 = true
  · unfold fauP at h
    rw [if_pos (Or.inl q)] at h
    have hle : (txtP (chr p l) 21 0).1 ≤ l := txtP_le 21 0 (by omega)
    have := nI_pos' (n := (txtP (chr p l) 21 0).1) (by omega)
    rw [h] at this
    exact absurd this (by decide)
  · exact Bool.eq_false_iff.mpr q
theorem x_carryOut (μ : zM) (a : Nat → Int32) (h : Rep μ 0 a) (G : (Nat → Int32) → Prop) (hG : ∀ a, G a → Gd a ∧ ∃ t, t ≤ 100000 ∧ Inv a t ∧ a 1 = nI t) (hD : ∀ a L, G a → SL L → G (doA a L).2) (h0 : G a) {l s0 : Nat} (hP : PD μ l s0) (hl : l ≤ 60) : zCs yX3_carryOut prog_1_method_23_code 3 (some .int) 8 [zR (0, 0, 0)] μ (fun μ' r => zo3 μ μ' ∧ (∃ s', PD μ' (if fauP (chr (μ (4, 0, 0)) l) l = -6 then 0 else l) s') ∧ r = (if fauP (chr (μ (4, 0, 0)) l) l = -6 then nI (runA (txtP (chr (μ (4, 0, 0)) l) 21 0).2.2 a).1 else -3) ∧ Rep μ' 0 (if fauP (chr (μ (4, 0, 0)) l) l = -6 then (runA (txtP (chr (μ (4, 0, 0)) l) 21 0).2.2 a).2 else a)) := by
  refine zCt.of "DyeTank" rfl (by decide +kernel) rfl (Nat.le_of_ble_eq_true rfl) (fun K hR => ?_)
  have v0 := zv_0
  have v1 := zv_1
  have v2 := zv_2
  have v3 := zv_3
  have v4 := zv_4
  refine z_ls (ls' := [zR (0, 0, 0), zN, zN]) rfl ?_
  refine z_aload_n dX3_carryOut_0 rfl rfl ?_
  refine zg_X3_pad dX3_carryOut_1 tw_165 ?_
  refine z_cVs (c_firstFault μ hP hl) q_X1_firstFault tw_519 dX3_carryOut_4 rfl rfl rfl (by omega) (Nat.le_of_ble_eq_true rfl) (fun μ1 x1 hh => ?_)
  have hok := fau_ok (p := μ (4, 0, 0)) (l := l) hl
  generalize hch : chr (μ (4, 0, 0)) l = ch at hR hh hok ⊢
  obtain ⟨e1, o1, s1, p1⟩ := hh
  refine z_bipush (v := -6) dX3_carryOut_7 (by decide) ?_
  rw [e1]
  refine z_icmp_eq (tgt := 15) dX3_carryOut_9 (by decide) (fun hf => ?_) (fun hf => ?_)
  · have hw := hok hf
    simp only [if_pos hf] at hR
    have fin : ∀ (i s : Nat) (b : Nat → Int32) (q : zV) (μ' : zM), zo3 μ μ' → PD μ' l s → Rep μ' 0 b → runA (txtP ch 21 0).2.2 a = (i, b) → Z K 8 "DyeTank" prog_1_method_23_code 3 77 [zR (0, 0, 0), zI (nI i), q] [] μ' := by
      intro i s b q μ' ho hp hr hM
      refine z_aload_n dX3_carryOut_77 rfl rfl ?_
      refine zg_X3_pad dX3_carryOut_78 tw_165 ?_
      refine z_iconst (v := 0) dX3_carryOut_81 (by decide) ?_
      refine zp_X1_length dX3_carryOut_82 tw_124 ?_
      have o2 : zoff [(3, 0, 0)] μ' (st μ' (3, 0, 0) (upd (μ' (3, 0, 0)) 0 0)) := zoff.rf.put (by simp) _
      refine z_iload_n dX3_carryOut_85 rfl rfl ?_
      refine z_iret hR dX3_carryOut_86 (⟨_, rfl, ho.tr o2.zo3, ⟨s, ?_⟩, by rw [hM], by rw [hM]; exact Rep_off3 hr o2⟩)
      rw [PD, st_eq, st_ne _ _ (by simp)]
      exact ⟨rfl, (if_neg (by decide)).trans hp.2.1, hp.2.2⟩
    have loop : ∀ (f i s : Nat) (b : Nat → Int32) (μ' : zM), i + f = 21 → s ≤ l → 3 * i ≤ s → zo3 μ μ' → PD μ' l s → Rep μ' 0 b → G b → (txtP ch f s).2.1 = false → runA (txtP ch 21 0).2.2 a = (i + (runA (txtP ch f s).2.2 b).1, (runA (txtP ch f s).2.2 b).2) → Z K 8 "DyeTank" prog_1_method_23_code 3 27 [zR (0, 0, 0), zI (nI i), zI (nI i)] [] μ' := by
      intro f
      induction f with
      | zero => intro i s b μ' h1 h2 h3; omega
      | succ f ih =>
        intro i s b μ' h1 h2 h3 ho hp hr hg hw2 hM
        have c0 : chr (μ' (4, 0, 0)) l = ch := by rw [ho (4, 0, 0) (by simp) (Or.inr (Or.inl (by decide))), hch]
        have lp : (stepP ch s).1 ≤ l := by rw [← hch]; exact stepP_le h2
        have hws : (stepP ch s).2.1 = false := by
          by_cases q : (stepP ch s).2.1 = false ∧ ch (stepP ch s).1 = 44
          · exact q.1
          · rw [show txtP ch (f + 1) s = _ from if_neg q] at hw2
            exact hw2
        have hge := stepP_ge hws
        obtain ⟨hgd, t, ht, hinv, htime⟩ := hG b hg
        refine z_iload_n dX3_carryOut_27 rfl rfl ?_
        refine z_bipush (v := 60) dX3_carryOut_28 (by decide) ?_
        refine z_icmp_ge (tgt := 77) dX3_carryOut_30 (by decide) (fun h9 => absurd h9 (fun h9 => absurd (nle (a := 60) h9) (by omega))) (fun _ => ?_)
        refine z_aload_n dX3_carryOut_33 rfl rfl ?_
        refine zg_X3_pad dX3_carryOut_34 tw_165 ?_
        refine z_cVs (c_readStep μ' hp hl h2) q_X1_readStep tw_572 dX3_carryOut_37 rfl rfl rfl (by omega) (Nat.le_of_ble_eq_true rfl) (fun μ2 x2 hh => ?_)
        rw [c0] at hh
        obtain ⟨e2, o2, p2, hF⟩ := hh
        have hF := hF hws
        rw [e2]
        refine z_if_eq (tgt := 77) dX3_carryOut_40 (by decide) (fun h9 => absurd h9 (fun h9 => zb_0.mp h9 (by rw [hws]; decide))) (fun _ => ?_)
        have r2 := Rep_off3 hr o2
        refine z_aload_n dX3_carryOut_43 rfl rfl ?_
        refine z_cVs (x_carriedOut μ2 b r2 t hinv htime ht hgd (stepP ch s).2.2 (stepP_SL hws) hF) q_X3_carriedOut tw_573 dX3_carryOut_44 rfl rfl rfl (by omega) (Nat.le_of_ble_eq_true rfl) (fun μ3 x3 hh => ?_)
        obtain ⟨e3, o3, r3⟩ := hh
        have p3 := PD_zoT p2 o3
        have z3 : zo3 μ μ3 := (ho.tr o2.zo3).tr o3.zo3
        have hg3 := hD b _ hg (stepP_SL hws)
        have c3 : chr (μ3 (4, 0, 0)) l = ch := by rw [z3 (4, 0, 0) (by simp) (Or.inr (Or.inl (by decide))), hch]
        have hlist : ∃ Rs, (txtP ch (f + 1) s).2.2 = (stepP ch s).2.2 :: Rs ∧ ((ch (stepP ch s).1 = 44 ∧ Rs = (txtP ch f ((stepP ch s).1 + 1)).2.2 ∧ (txtP ch f ((stepP ch s).1 + 1)).2.1 = false) ∨ (¬ ch (stepP ch s).1 = 44 ∧ Rs = [])) := by
          by_cases q : ch (stepP ch s).1 = 44
          · have eT : txtP ch (f + 1) s = _ := if_pos ⟨hws, q⟩
            rw [eT] at hw2 ⊢
            exact ⟨_, rfl, Or.inl ⟨q, rfl, hw2⟩⟩
          · have eT : txtP ch (f + 1) s = _ := if_neg (fun z => q z.2)
            rw [eT]
            exact ⟨_, rfl, Or.inr ⟨q, rfl⟩⟩
        obtain ⟨Rs, eL, hRs⟩ := hlist
        rw [eL] at hM
        rw [e3]
        refine z_bne (tgt := 53) dX3_carryOut_47 (by decide) (fun hz => ?_) (fun hz => ?_)
        · have eRun : runA ((stepP ch s).2.2 :: Rs) b = _ := if_pos hz
          rw [eRun] at hM
          refine z_incS dX3_carryOut_53 rfl (inc1 _) (by decide) rfl ?_
          refine z_aload_n dX3_carryOut_56 rfl rfl ?_
          refine zg_X3_pad dX3_carryOut_57 tw_165 ?_
          refine z_bipush (v := 44) dX3_carryOut_60 (by decide) ?_
          refine z_cVs (c_take μ3 p3 hl (by omega) 44) q_X1_take tw_581 dX3_carryOut_62 rfl rfl rfl (by omega) (Nat.le_of_ble_eq_true rfl) (fun μ4 x4 hh => ?_)
          rw [c3] at hh
          obtain ⟨e4, o4, p4, _⟩ := hh
          rw [e4]
          have r4 := Rep_off3 r3 o4.1
          have z4 := z3.tr o4.1.zo3
          refine z_bne (tgt := 71) dX3_carryOut_65 (by decide) (fun h44 => ?_) (fun h44 => ?_)
          · rw [mNeed_t h44] at p4
            rcases hRs with ⟨_, eRs, hwn⟩ | ⟨hn, _⟩
            · have hlt : (stepP ch s).1 < l := chr_ne (p := μ (4, 0, 0)) (c := 44) (by rw [hch]; exact h44) (by decide)
              rw [eRs] at hM
              refine z_incS dX3_carryOut_71 rfl (inc1 _) (by decide) rfl ?_
              refine z_goto (tgt := 27) dX3_carryOut_74 (by decide) ?_
              refine ih (i + 1) ((stepP ch s).1 + 1) _ μ4 (by omega) (by omega) (by omega) z4 p4 r4 hg3 hwn ?_
              rw [hM]
              show (i + (_ + 1), _) = (i + 1 + _, _)
              rw [Nat.add_assoc, Nat.add_comm 1]
            · exact absurd h44 hn
          · rw [mNeed_f h44] at p4
            rcases hRs with ⟨hy, _, _⟩ | ⟨_, eRs⟩
            · exact absurd hy h44
            · rw [eRs] at hM
              refine z_goto (tgt := 77) dX3_carryOut_68 (by decide) ?_
              exact fin (i + 1) _ _ _ μ4 z4 p4 r4 hM
        · have eRun : runA ((stepP ch s).2.2 :: Rs) b = _ := if_neg hz
          rw [eRun] at hM
          refine z_goto (tgt := 77) dX3_carryOut_50 (by decide) ?_
          exact fin i _ _ _ μ3 z3 p3 r3 hM
    refine z_iconst (v := 0) dX3_carryOut_15 (by decide) ?_
    refine z_istS_n dX3_carryOut_16 rfl (by decide) rfl ?_
    refine z_aload_n dX3_carryOut_17 rfl rfl ?_
    refine zg_X3_pad dX3_carryOut_18 tw_165 ?_
    refine z_iconst (v := 0) dX3_carryOut_21 (by decide) ?_
    refine zp_X1_at dX3_carryOut_22 tw_126 ?_
    refine z_iconst (v := 0) dX3_carryOut_25 (by decide) ?_
    refine z_istS_n dX3_carryOut_26 rfl (by decide) rfl ?_
    refine loop 21 0 0 a _ rfl (by omega) (by omega) (o1.zo3.tr (zoff.zo3 (zoff.rf.put (by simp) _))) (p1.at 0) (Rep_off3 h (o1.put (by simp) _)) h0 hw ?_
    rw [Nat.zero_add]
  · simp only [if_neg hf] at hR
    refine z_bipush (v := -3) dX3_carryOut_12 (by decide) ?_
    refine z_iret hR dX3_carryOut_14 (⟨_, rfl, o1.zo3, ⟨s1, p1⟩, rfl, Rep_off3 h o1⟩)
