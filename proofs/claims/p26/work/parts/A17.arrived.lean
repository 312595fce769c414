/-! arrived() of the law -/
set_option maxRecDepth 100000 in
theorem k_arrived {μ : zM} {a : rw} {S : Nat → Option rw} {t ap : Nat} {fp : Nat → Int32} (h : OK μ a S 0) (hw : Lw a t) (ht : t ≤ 90000) (hf : PI fp a) (v : Int32) : xCs yL_arrived method_10_code 11 (some .boolean) 8 0 0 [zR (0, 0, 0), xR ap, zI v] μ [(ap, 3, fp)] (fun μ' E' => E' = [(ap, 3, fp)] ∧ ∃ S', OK μ' a S' 0) := by
  refine xCt.of "DyeTankLaw" rfl (by decide +kernel) rfl (Nat.le_of_ble_eq_true rfl) (fun K hR => ?_)
  have hF := h.2.1
  obtain ⟨hn2, hn12⟩ := Full_n hF
  have hIB := Full_IB hF
  refine j_ls (ls' := [zR (0, 0, 0), xR ap, zI v, zN, zN, zN, zN, zN, zN, zN, zN]) rfl ?_
  refine j_iload_n dL_arrived_0 rfl rfl ?_
  refine j_iconst (v := 3) dL_arrived_1 (by decide) ?_
  refine j_cSi (c_up _ 3 (by decide)) q_L_up tw_189 dL_arrived_2 rfl rfl (by omega) (Nat.le_of_ble_eq_true rfl) (by omega) (by omega) ?_
  obtain ⟨c, hc, ec⟩ := up_ex v (m := 3) (by omega) (by omega)
  refine j_top (ec) ?_
  refine j_istore_n dL_arrived_5 rfl (by decide) rfl ?_
  refine j_iload_n dL_arrived_6 rfl rfl ?_
  refine j_iconst (v := 2) dL_arrived_7 (by decide) ?_
  refine j_ishr dL_arrived_8 ?_
  refine j_aload_n dL_arrived_9 rfl rfl ?_
  refine j_iconst (v := 1) dL_arrived_10 (by decide) ?_
  refine j_cVi (o_state h 1) q_X3_state tw_196 dL_arrived_11 rfl rfl rfl (by omega) (Nat.le_of_ble_eq_true rfl) (by omega) (by omega) ?_ zv_0
  refine j_top ((st_1.trans hIB.1)) ?_
  refine j_cSi (c_up _ (nI (rN a)) (nI_ne0 (by omega) (by omega))) q_L_up tw_189 dL_arrived_14 rfl rfl (by omega) (Nat.le_of_ble_eq_true rfl) (by omega) (by omega) ?_
  obtain ⟨r, hr, er⟩ := up_ex (v >>> (2 &&& 31)) (m := rN a) (by omega) (by omega)
  refine j_top (er) ?_
  refine j_istore dL_arrived_17 (by decide) rfl ?_
  refine j_iconst (v := 1) dL_arrived_19 (by decide) ?_
  refine j_iload_n dL_arrived_20 rfl rfl ?_
  refine j_bipush (v := 6) dL_arrived_21 (by decide) ?_
  refine j_ishr dL_arrived_23 ?_
  refine j_sipush (v := 400) dL_arrived_24 (by decide) ?_
  refine j_cSi (c_up _ 400 (by decide)) q_L_up tw_189 dL_arrived_27 rfl rfl (by omega) (Nat.le_of_ble_eq_true rfl) (by omega) (by omega) ?_
  obtain ⟨s0, hs0, es⟩ := up_ex (v >>> (6 &&& 31)) (m := 400) (by omega) (by omega)
  refine j_top (es) ?_
  refine j_iadd dL_arrived_30 ?_
  refine j_top ((nI_add 1 s0)) ?_
  obtain ⟨s, hs⟩ : ∃ s, s = 1 + s0 := ⟨_, rfl⟩
  rw [← hs]
  refine j_istore dL_arrived_31 (by decide) rfl ?_
  refine j_iconst (v := 1) dL_arrived_33 (by decide) ?_
  refine j_iload_n dL_arrived_34 rfl rfl ?_
  refine j_bipush (v := 9) dL_arrived_35 (by decide) ?_
  refine j_ishr dL_arrived_37 ?_
  refine j_bipush (v := 40) dL_arrived_38 (by decide) ?_
  refine j_cSi (c_up _ 40 (by decide)) q_L_up tw_189 dL_arrived_40 rfl rfl (by omega) (Nat.le_of_ble_eq_true rfl) (by omega) (by omega) ?_
  obtain ⟨m, hm, em⟩ := up_ex (v >>> (9 &&& 31)) (m := 40) (by omega) (by omega)
  refine j_top (em) ?_
  refine j_iadd dL_arrived_43 ?_
  refine j_top ((nI_add 1 m)) ?_
  obtain ⟨M, hM⟩ : ∃ M, M = 1 + m := ⟨_, rfl⟩
  rw [← hM]
  refine j_istore dL_arrived_44 (by decide) rfl ?_
  refine j_aload_n dL_arrived_46 rfl rfl ?_
  refine j_iload_n dL_arrived_47 rfl rfl ?_
  refine j_iload dL_arrived_48 rfl ?_
  refine j_iload dL_arrived_50 rfl ?_
  refine j_iload dL_arrived_52 rfl ?_
  refine j_cVs (g_arrives h (s := s) (M := M) hc hr (by omega) (by omega)) q_X3_arrives tw_469 dL_arrived_54 rfl rfl rfl (by omega) (Nat.le_of_ble_eq_true rfl) (by omega) (by omega) (fun μ1 w ⟨h1, hcs⟩ => ?_) zv_0
  refine j_istore dL_arrived_57 (by decide) rfl ?_
  refine j_aload_n dL_arrived_59 rfl rfl ?_
  refine j_iload_n dL_arrived_60 rfl rfl ?_
  refine j_iald (k0 := 0) dL_arrived_61 rfl rfl hc (by decide) ?_
  have hfc := hf c hc
  refine j_if_ne (tgt := 78) dL_arrived_62 (by decide) (fun h0 => ?_) (fun h0 => ?_)
  · rcases hcs with q | ⟨_, hfst⟩
    · exact absurd (hfc.trans q.1) h0
    · refine j_aload_n dL_arrived_78 rfl rfl ?_
      refine j_iconst (v := 0) dL_arrived_79 (by decide) ?_
      refine j_cVs (g_save h1 (i := 0) (by omega)) q_X3_save tw_437 dL_arrived_80 rfl rfl rfl (by omega) (Nat.le_of_ble_eq_true rfl) (by omega) (by omega) (fun μ2 w2 ⟨ew, h2⟩ => ?_) zv_0
      refine j_istore dL_arrived_83 (by decide) rfl ?_
      subst ew
      obtain ⟨lim, hlim, hcase, hiff⟩ := FST_use hfst (by omega)
      refine j_iconst (v := 0) dL_arrived_85 (by decide) ?_
      refine j_istore dL_arrived_86 (by decide) rfl ?_
      have loop : ∀ (f1 k : Nat) (μ : zM), k ≤ lim + 1 → lim + 1 < k + f1 → OK μ (itF k a) (putS S 0 a) 0 → (∀ μ, OK μ (itF (lim + 1) a) (putS S 0 a) 0 → Xj K 8 0 0 "DyeTankLaw" method_10_code 11 169 [zR (0, 0, 0), xR ap, zI v, zI (nI c), zI (nI r), zI (nI s), zI (nI M), zI w, zI (a 1), zN, zN] [] μ [(ap, 3, fp)] 0 0) → Xj K 8 0 0 "DyeTankLaw" method_10_code 11 88 [zR (0, 0, 0), xR ap, zI v, zI (nI c), zI (nI r), zI (nI s), zI (nI M), zI w, zI (a 1), zI (nI k), zN] [] μ [(ap, 3, fp)] 0 0 := by
        intro f
        induction f with
        | zero => intro k μ h1 h2 h3 h4; exact absurd ‹_ < _ + 0› (by omega)
        | succ f ih =>
          intro k μ hk1 hk2 hb2 hend
          have hF2 := hb2.2.1
          have hwb := hw.it hF k (by omega) (by omega)
          have enx : itF (k + 1) a = tickF (itF k a) := rfl
          have ih2 := ih (k + 1)
          have hq := hiff k
          rw [enx] at ih2
          have en : rN (itF k a) = rN a := it_N a k
          have hfk := hf.it hF (k := k) (by omega) c hc
          have hkend : k = lim + 1 → OK μ (itF (lim + 1) a) (putS S 0 a) 0 := fun e => by rw [← e]; exact hb2
          generalize itF k a = b at hb2 hF2 hwb en ih2 hq hfk hkend
          have go : Xj K 8 0 0 "DyeTankLaw" method_10_code 11 102 [zR (0, 0, 0), xR ap, zI v, zI (nI c), zI (nI r), zI (nI s), zI (nI M), zI w, zI (a 1), zI (nI k), zN] [zI (nI lim), zI (nI k)] μ [(ap, 3, fp)] 0 0 := by
            refine j_icmp_gt (tgt := 169) dL_arrived_102 (by decide) (fun hd => ?_) (fun hd => ?_)
            · have hd := nlt hd
              refine j_less (ls' := [zR (0, 0, 0), xR ap, zI v, zI (nI c), zI (nI r), zI (nI s), zI (nI M), zI w, zI (a 1), zN, zN]) (by repeat' constructor) ?_
              exact hend μ (hkend (by omega))
            · have hd := nnlt hd
              refine j_ldc2 (v := 1000) dL_arrived_105 tw_432 ?_
              refine j_aload_n dL_arrived_108 rfl rfl ?_
              refine j_iload dL_arrived_109 rfl ?_
              refine j_iconst (v := 4) dL_arrived_111 (by decide) ?_
              refine j_iload_n dL_arrived_112 rfl rfl ?_
              refine j_iadd dL_arrived_113 ?_
              refine j_cVi (o_ring hb2 _ _) q_X3_ring tw_228 dL_arrived_114 rfl rfl rfl (by omega) (Nat.le_of_ble_eq_true rfl) (by omega) (by omega) ?_ zv_0
              refine j_top ((rv_sum en hr hn12 hc)) ?_
              refine j_i2l dL_arrived_117 ?_
              refine j_lmul dL_arrived_118 ?_
              refine j_iload dL_arrived_119 rfl ?_
              refine j_i2l dL_arrived_121 ?_
              refine j_aload_n dL_arrived_122 rfl rfl ?_
              refine j_iload_n dL_arrived_123 rfl rfl ?_
              refine j_iald (k0 := 0) dL_arrived_124 rfl rfl hc (by decide) ?_
              refine j_i2l dL_arrived_125 ?_
              refine j_lmul dL_arrived_126 ?_
              refine j_lcmp dL_arrived_127 ?_
              have back : ∀ x : Int32, Xj K 8 0 0 "DyeTankLaw" method_10_code 11 157 [zR (0, 0, 0), xR ap, zI v, zI (nI c), zI (nI r), zI (nI s), zI (nI M), zI w, zI (a 1), zI (nI k), zI x] [] μ [(ap, 3, fp)] 0 0 := by
                intro x
                refine j_aload_n dL_arrived_157 rfl rfl ?_
                refine j_iconst (v := 1) dL_arrived_158 (by decide) ?_
                refine j_cVs (g_tick hb2 (M := 1) hwb.1 (by omega) (by omega)) q_X3_tick tw_268 dL_arrived_159 rfl rfl rfl (by omega) (Nat.le_of_ble_eq_true rfl) (by omega) (by omega) (fun μ3 w3 ⟨_, h3⟩ => ?_) zv_0
                refine j_pop dL_arrived_162 rfl ?_
                refine j_iinc dL_arrived_163 rfl (inc1 _) (by decide) rfl ?_
                refine j_goto (tgt := 88) dL_arrived_166 (by decide) ?_
                refine j_less (ls' := [zR (0, 0, 0), xR ap, zI v, zI (nI c), zI (nI r), zI (nI s), zI (nI M), zI w, zI (a 1), zI (nI (k + 1)), zN]) (by repeat' constructor) ?_
                exact ih2 μ3 (by omega) (by omega) h3 hend
              have j136 : ∀ x : Int32, x = (if nI k = w then 1 else 0) → Xj K 8 0 0 "DyeTankLaw" method_10_code 11 136 [zR (0, 0, 0), xR ap, zI v, zI (nI c), zI (nI r), zI (nI s), zI (nI M), zI w, zI (a 1), zI (nI k), zN] [zI x] μ [(ap, 3, fp)] 0 0 := by
                intro x hx
                refine j_istore dL_arrived_136 (by decide) rfl ?_
                refine j_iload dL_arrived_138 rfl ?_
                refine j_iload dL_arrived_140 rfl ?_
                refine j_iload dL_arrived_142 rfl ?_
                refine j_icmp_ne (tgt := 151) dL_arrived_144 (by decide) (fun hkn => ?_) (fun hkn => ?_)
                · rw [if_neg hkn] at hx
                  refine j_iconst (v := 0) dL_arrived_151 (by decide) ?_
                  refine j_icmp_eq (tgt := 157) dL_arrived_152 (by decide) (fun _ => ?_) (fun h9 => absurd (hx) h9)
                  exact back x
                · rw [if_pos hkn] at hx
                  refine j_iconst (v := 1) dL_arrived_147 (by decide) ?_
                  refine j_goto (tgt := 152) dL_arrived_148 (by decide) ?_
                  refine j_icmp_eq (tgt := 157) dL_arrived_152 (by decide) (fun _ => ?_) (fun h9 => absurd (hx) h9)
                  exact back x
              have hq2 := hq hd
              unfold partB at hq2
              rw [decide_eq_true_iff, ← en, ← hfk] at hq2
              refine j_if_lt (tgt := 135) dL_arrived_128 (by decide) (fun hl => ?_) (fun hl => ?_)
              · refine j_iconst (v := 0) dL_arrived_135 (by decide) ?_
                refine j136 0 (if_neg (fun z => ?_)).symm
                have hl2 := (lg_cmp_lt _ _).mp hl
                exact absurd hl2 (Int64.not_lt.mpr (hq2.mpr z))
              · refine j_iconst (v := 1) dL_arrived_131 (by decide) ?_
                refine j_goto (tgt := 136) dL_arrived_132 (by decide) ?_
                refine j136 1 (if_pos (hq2.mp ?_)).symm
                exact Int64.not_lt.mp (fun z => hl ((lg_cmp_lt _ _).mpr z))
          refine j_iload dL_arrived_88 rfl ?_
          refine j_iload dL_arrived_90 rfl ?_
          rcases hcase with ⟨h0, e⟩ | ⟨h0, e⟩
          · refine j_if_ge (tgt := 100) dL_arrived_92 (by decide) (fun _ => ?_) (fun h9 => absurd (h0) h9)
            refine j_iload dL_arrived_100 rfl ?_
            refine j_top (e) ?_
            exact go
          · refine j_if_ge (tgt := 100) dL_arrived_92 (by decide) (fun h9 => absurd h9 (h0)) (fun _ => ?_)
            refine j_iload dL_arrived_95 rfl ?_
            refine j_goto (tgt := 102) dL_arrived_97 (by decide) ?_
            refine j_top ((congrArg nI e.symm)) ?_
            exact go
      refine loop (lim + 2) 0 μ2 (by omega) (by omega) h2 (fun μ3 h3 => ?_)
      refine j_aload_n dL_arrived_169 rfl rfl ?_
      refine j_iconst (v := 0) dL_arrived_170 (by decide) ?_
      refine j_cVs (g_restore h3 (i := 0) (by omega) (putS_eq S 0 a)) q_X3_restore tw_450 dL_arrived_171 rfl rfl rfl (by omega) (Nat.le_of_ble_eq_true rfl) (by omega) (by omega) (fun μ4 w4 ⟨ew4, h4⟩ => ?_) zv_0
      subst ew4
      refine j_iload dL_arrived_174 rfl ?_
      refine j_icmp_ne (tgt := 183) dL_arrived_176 (by decide) (fun h9 => absurd h9 (fun q => q rfl)) (fun _ => ?_)
      refine j_iconst (v := 1) dL_arrived_179 (by decide) ?_
      refine j_goto (tgt := 184) dL_arrived_180 (by decide) ?_
      refine j_bret hR dL_arrived_184 (Or.inr rfl) (⟨rfl, rfl, _, h4⟩) (by omega) (by omega)
  · rcases hcs with q | q
    · refine j_iload dL_arrived_65 rfl ?_
      refine j_bipush (v := -5) dL_arrived_67 (by decide) ?_
      refine j_icmp_ne (tgt := 76) dL_arrived_69 (by decide) (fun h9 => absurd h9 (fun z => z q.2)) (fun _ => ?_)
      refine j_iconst (v := 1) dL_arrived_72 (by decide) ?_
      refine j_goto (tgt := 77) dL_arrived_73 (by decide) ?_
      refine j_bret hR dL_arrived_77 (Or.inr rfl) (⟨rfl, rfl, _, h1⟩) (by omega) (by omega)
    · exact absurd (hfc.symm.trans h0) q.1
