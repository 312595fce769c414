/-! whole() of the law -/
set_option maxRecDepth 100000 in
theorem k_whole {μ : zM} {a : rw} {S : Nat → Option rw} {ap : Nat} {fp : Nat → Int32} (h : OK μ a S 0) (hf : PI fp a) : xCs yL_whole method_7_code 16 (some .boolean) 7 0 0 [zR (0, 0, 0), xR ap] μ [(ap, 3, fp)] (fun μ' E' => E' = [(ap, 3, fp)] ∧ μ' = μ) := by
  refine xCt.of "DyeTankLaw" rfl (by decide +kernel) rfl (Nat.le_of_ble_eq_true rfl) (fun K hR => ?_)
  have hF := h.2.1
  obtain ⟨hn2, hn12⟩ := Full_n hF
  have hIB := Full_IB hF
  have hDI : ∀ c, c < 3 → DI (rN a) (aD a c) := by
    obtain ⟨_, _, _, hI, _⟩ := hF
    exact hI.2.2.1
  refine j_ls (ls' := [zR (0, 0, 0), xR ap, zN, zN, zN, zN, zN, zN, zN, zN, zN, zN, zN, zN, zN, zN]) rfl ?_
  refine j_aload_n dL_whole_0 rfl rfl ?_
  refine j_iconst (v := 1) dL_whole_1 (by decide) ?_
  refine j_cVi (o_state h 1) q_X3_state tw_196 dL_whole_2 rfl rfl rfl (by omega) (Nat.le_of_ble_eq_true rfl) (by omega) (by omega) ?_ zv_0
  refine j_top ((st_1.trans hIB.1)) ?_
  refine j_istore_n dL_whole_5 rfl (by decide) rfl ?_
  refine j_iconst (v := 0) dL_whole_6 (by decide) ?_
  refine j_istore_n dL_whole_7 rfl (by decide) rfl ?_
  refine j_iconst (v := 1) dL_whole_8 (by decide) ?_
  refine j_istore dL_whole_9 (by decide) rfl ?_
  obtain ⟨fS, hfS⟩ : ∃ fS : Nat → Int32, fS = (fun r => absI (vel (aP a) r - vel (aP a) (r + 1))) := ⟨_, rfl⟩
  have lA : ∀ (f s : Nat), s + 1 ≤ rN a → rN a < s + 1 + f → Xj K 7 0 0 "DyeTankLaw" method_7_code 16 68 [zR (0, 0, 0), xR ap, zI (nI (rN a)), zI (mxf fS (rN a - 1)), zN, zN, zN, zN, zN, zN, zN, zN, zN, zN, zN, zN] [] μ [(ap, 3, fp)] 0 0 → Xj K 7 0 0 "DyeTankLaw" method_7_code 16 11 [zR (0, 0, 0), xR ap, zI (nI (rN a)), zI (mxf fS s), zI (nI (s + 1)), zN, zN, zN, zN, zN, zN, zN, zN, zN, zN, zN] [] μ [(ap, 3, fp)] 0 0 := by
    intro f
    induction f with
    | zero => intro s h1 h2 h3; exact absurd ‹_ < _ + 0› (by omega)
    | succ f ih =>
      intro s hs1 hs2 hend
      refine j_iload dL_whole_11 rfl ?_
      refine j_iload_n dL_whole_13 rfl rfl ?_
      refine j_icmp_ge (tgt := 68) dL_whole_14 (by decide) (fun hd => ?_) (fun hd => ?_)
      · have hd := nle hd
        have e : s = rN a - 1 := by omega
        rw [e]
        refine j_less (ls' := [zR (0, 0, 0), xR ap, zI (nI (rN a)), zI (mxf fS (rN a - 1)), zN, zN, zN, zN, zN, zN, zN, zN, zN, zN, zN, zN]) (by repeat' constructor) ?_
        exact hend
      · have hd := nnle hd
        have v1 := Full_vel hF (r := s + 1) (by omega)
        have v0 := Full_vel hF (r := s) (by omega)
        refine j_aload_n dL_whole_17 rfl rfl ?_
        refine j_iload dL_whole_18 rfl ?_
        refine j_iconst (v := 0) dL_whole_20 (by decide) ?_
        refine j_cVi (o_ring h _ _) q_X3_ring tw_228 dL_whole_21 rfl rfl rfl (by omega) (Nat.le_of_ble_eq_true rfl) (by omega) (by omega) ?_ zv_0
        refine j_top ((rv_vel rfl hd hn12)) ?_
        refine j_aload_n dL_whole_24 rfl rfl ?_
        refine j_iload dL_whole_25 rfl ?_
        refine j_iconst (v := 1) dL_whole_27 (by decide) ?_
        refine j_isub dL_whole_28 ?_
        refine j_top ((nI_s1 (show 1 ≤ s + 1 by omega))) ?_
        refine j_iconst (v := 0) dL_whole_29 (by decide) ?_
        refine j_cVi (o_ring h _ _) q_X3_ring tw_228 dL_whole_30 rfl rfl rfl (by omega) (Nat.le_of_ble_eq_true rfl) (by omega) (by omega) ?_ zv_0
        refine j_top ((rv_vel (r := s) rfl (by omega) hn12)) ?_
        obtain ⟨d, hdd⟩ : ∃ d, d = vel (aP a) (s + 1) - vel (aP a) s := ⟨_, rfl⟩
        have ed : d.toInt = (vel (aP a) (s + 1)).toInt - (vel (aP a) s).toInt := by rw [hdd, Int32.toInt_sub, Int.bmod_eq_of_le (by omega) (by omega)]
        have hst := steep_s (M := mxf fS s) (d := d) (mxf_nn _ _) (by omega) hdd (by rw [Int32.toInt_sub, Int.bmod_eq_of_le (by omega) (by omega)]; omega)
        have hmx : mxf fS (s + 1) = (if mxf fS s < absI (vel (aP a) s - vel (aP a) (s + 1)) then absI (vel (aP a) s - vel (aP a) (s + 1)) else mxf fS s) := by
          rw [mxf, hfS]
        rw [← hmx] at hst
        refine j_isub dL_whole_33 ?_
        refine j_top (hdd.symm) ?_
        refine j_istore dL_whole_34 (by decide) rfl ?_
        refine j_iload dL_whole_36 rfl ?_
        refine j_iload_n dL_whole_38 rfl rfl ?_
        have j61 : Xj K 7 0 0 "DyeTankLaw" method_7_code 16 61 [zR (0, 0, 0), xR ap, zI (nI (rN a)), zI (mxf fS s), zI (nI (s + 1)), zI d, zN, zN, zN, zN, zN, zN, zN, zN, zN, zN] [zI (mxf fS (s + 1))] μ [(ap, 3, fp)] 0 0 := by
          refine j_istore_n dL_whole_61 rfl (by decide) rfl ?_
          refine j_iinc dL_whole_62 rfl (inc1 _) (by decide) rfl ?_
          refine j_goto (tgt := 11) dL_whole_65 (by decide) ?_
          refine j_less (ls' := [zR (0, 0, 0), xR ap, zI (nI (rN a)), zI (mxf fS (s + 1)), zI (nI (s + 1 + 1)), zN, zN, zN, zN, zN, zN, zN, zN, zN, zN, zN]) (by repeat' constructor) ?_
          exact ih (s + 1) (by omega) (by omega) hend
        refine j_icmp_le (tgt := 47) dL_whole_39 (by decide) (fun c1 => ?_) (fun c1 => ?_)
        · rw [if_pos c1] at hst
          refine j_iload dL_whole_47 rfl ?_
          refine j_ineg dL_whole_49 ?_
          refine j_iload_n dL_whole_50 rfl rfl ?_
          refine j_icmp_le (tgt := 60) dL_whole_51 (by decide) (fun c2 => ?_) (fun c2 => ?_)
          · rw [if_pos c2] at hst
            refine j_iload_n dL_whole_60 rfl rfl ?_
            refine j_top (hst) ?_
            exact j61
          · rw [if_neg c2] at hst
            refine j_iload dL_whole_54 rfl ?_
            refine j_ineg dL_whole_56 ?_
            refine j_goto (tgt := 61) dL_whole_57 (by decide) ?_
            refine j_top (hst) ?_
            exact j61
        · rw [if_neg c1] at hst
          refine j_iload dL_whole_42 rfl ?_
          refine j_goto (tgt := 61) dL_whole_44 (by decide) ?_
          refine j_top (hst) ?_
          exact j61
  refine lA (rN a + 1) 0 (by omega) (by omega) ?_
  refine j_aload_n dL_whole_68 rfl rfl ?_
  refine j_iconst (v := 4) dL_whole_69 (by decide) ?_
  refine j_cVi (o_state h 4) q_X3_state tw_196 dL_whole_70 rfl rfl rfl (by omega) (Nat.le_of_ble_eq_true rfl) (by omega) (by omega) ?_ zv_0
  refine j_top ((st_4.trans (by rw [← hfS]))) ?_
  refine j_iload_n dL_whole_73 rfl rfl ?_
  refine j_icmp_eq (tgt := 79) dL_whole_74 (by decide) (fun _ => ?_) (fun h9 => absurd (rfl) h9)
  refine j_iconst (v := 0) dL_whole_79 (by decide) ?_
  refine j_istore dL_whole_80 (by decide) rfl ?_
  have lB : ∀ (f c : Nat), c ≤ 3 → 3 < c + f → Xj K 7 0 0 "DyeTankLaw" method_7_code 16 82 [zR (0, 0, 0), xR ap, zI (nI (rN a)), zI (mxf fS (rN a - 1)), zI (nI c), zN, zN, zN, zN, zN, zN, zN, zN, zN, zN, zN] [] μ [(ap, 3, fp)] 0 0 := by
    intro f
    induction f with
    | zero => intro c h1 h2; exact absurd ‹_ < _ + 0› (by omega)
    | succ f ih =>
      intro c hc1 hc2
      refine j_iload dL_whole_82 rfl ?_
      refine j_iconst (v := 3) dL_whole_84 (by decide) ?_
      refine j_icmp_ge (tgt := 380) dL_whole_85 (by decide) (fun hc => ?_) (fun hc => ?_)
      · refine j_iconst (v := 1) dL_whole_380 (by decide) ?_
        refine j_bret hR dL_whole_381 (Or.inr rfl) (⟨rfl, rfl, rfl⟩) (by omega) (by omega)
      · have hc : c < 3 := nnle (a := 3) hc
        have hD := hDI c hc
        have hfc := hf c hc
        have e0 : colW a (rN a) (nI c) 0 = (fp c).toInt64 := by rw [hfc]; exact cw_0 hc
        have e1 : colW a (rN a) (nI c) 1 = _ := cw_1 hc
        have e2 : colW a (rN a) (nI c) 2 = _ := cw_2 hc
        have e3 : colW a (rN a) (nI c) 3 = _ := cw_3 hc
        have e4 : colW a (rN a) (nI c) 4 = meanP (aD a c) (rN a) (fp c) := by rw [hfc]; exact cw_4 hc
        have e5 : colW a (rN a) (nI c) 5 = unev (aD a c) (rN a) (fp c).toInt64 := by rw [hfc]; exact cw_5 hc
        have hun := unev_law hn2 hn12 hD
        rw [← hfc] at hun
        obtain ⟨D, hDD⟩ : ∃ D, D = aD a c := ⟨_, rfl⟩
        rw [← hDD] at hD e1 e2 e3 e4 e5 hun
        refine j_lconst (v := 0) dL_whole_88 (by decide) ?_
        refine j_lstore dL_whole_89 (by decide) rfl ?_
        refine j_lconst (v := 0) dL_whole_91 (by decide) ?_
        refine j_lstore dL_whole_92 (by decide) rfl ?_
        refine j_iconst (v := 0) dL_whole_94 (by decide) ?_
        refine j_istore dL_whole_95 (by decide) rfl ?_
        refine j_lconst (v := 0) dL_whole_97 (by decide) ?_
        refine j_lstore dL_whole_98 (by decide) rfl ?_
        refine j_iconst (v := 0) dL_whole_100 (by decide) ?_
        refine j_istore dL_whole_101 (by decide) rfl ?_
        have lC : ∀ (f r : Nat) (m : Int64), r ≤ rN a → rN a < r + f → MX a D r 0 m → (∀ m, MX a D (rN a) 0 m → Xj K 7 0 0 "DyeTankLaw" method_7_code 16 250 [zR (0, 0, 0), xR ap, zI (nI (rN a)), zI (mxf fS (rN a - 1)), zI (nI c), zL (sml (fun r' => (rowS D 0 r').toInt64) (rN a)), zN, zL (sml (fun r' => (nI r').toInt64 * (ringS D r').toInt64) (rN a)), zN, zI (sm (ringS (inD D)) (rN a)), zL m, zN, zI (nI (rN a)), zN, zN, zN] [] μ [(ap, 3, fp)] 0 0) → Xj K 7 0 0 "DyeTankLaw" method_7_code 16 103 [zR (0, 0, 0), xR ap, zI (nI (rN a)), zI (mxf fS (rN a - 1)), zI (nI c), zL (sml (fun r' => (rowS D 0 r').toInt64) r), zN, zL (sml (fun r' => (nI r').toInt64 * (ringS D r').toInt64) r), zN, zI (sm (ringS (inD D)) r), zL m, zN, zI (nI r), zN, zN, zN] [] μ [(ap, 3, fp)] 0 0 := by
          intro f
          induction f with
          | zero => intro r m h1 h2 h3 h4; exact absurd ‹_ < _ + 0› (by omega)
          | succ f ih =>
            intro r m hr1 hr2 hm hend
            refine j_iload dL_whole_103 rfl ?_
            refine j_iload_n dL_whole_105 rfl rfl ?_
            refine j_icmp_ge (tgt := 250) dL_whole_106 (by decide) (fun hr => ?_) (fun hr => ?_)
            · have hr := nle hr
              have e : r = rN a := by omega
              subst e
              exact hend m hm
            · have hr := nnle hr
              refine j_iconst (v := 0) dL_whole_109 (by decide) ?_
              refine j_istore dL_whole_110 (by decide) rfl ?_
              refine j_iconst (v := 0) dL_whole_112 (by decide) ?_
              refine j_istore dL_whole_113 (by decide) rfl ?_
              have lD : ∀ (f k : Nat) (m : Int64), k ≤ 48 → 48 < k + f → MX a D r k m → (∀ (m : Int64) (x : zV), MX a D r 48 m → Xj K 7 0 0 "DyeTankLaw" method_7_code 16 215 [zR (0, 0, 0), xR ap, zI (nI (rN a)), zI (mxf fS (rN a - 1)), zI (nI c), zL (sml (fun r' => (rowS D 0 r').toInt64) (r + 1)), zN, zL (sml (fun r' => (nI r').toInt64 * (ringS D r').toInt64) r), zN, zI (sm (ringS (inD D)) (r + 1)), zL m, zN, zI (nI r), zI (ringS D r), zN, zN] [] μ [(ap, 3, fp)] 0 0) → Xj K 7 0 0 "DyeTankLaw" method_7_code 16 115 [zR (0, 0, 0), xR ap, zI (nI (rN a)), zI (mxf fS (rN a - 1)), zI (nI c), zL (sml (fun r' => (rowS D 0 r').toInt64) r + sml (tpK a D r) k), zN, zL (sml (fun r' => (nI r').toInt64 * (ringS D r').toInt64) r), zN, zI (sm (ringS (inD D)) r + sm (dK a (inD D) r) k), zL m, zN, zI (nI r), zI (sm (dK a D r) k), zI (nI k), zN] [] μ [(ap, 3, fp)] 0 0 := by
                intro f
                induction f with
                | zero => intro k m h1 h2 h3 h4; exact absurd ‹_ < _ + 0› (by omega)
                | succ f ih =>
                  intro k m hk1 hk2 hm hend
                  refine j_iload dL_whole_115 rfl ?_
                  refine j_bipush (v := 48) dL_whole_117 (by decide) ?_
                  refine j_icmp_ge (tgt := 215) dL_whole_119 (by decide) (fun hk => ?_) (fun hk => ?_)
                  · have hk := nle (a := 48) hk
                    have e : k = 48 := by omega
                    subst e
                    have t1 := tpK_48 a hn12 hD hr
                    rw [t1, (dK_sum a D r).2, (dK_sum a (inD D) r).2]
                    refine j_less (ls' := [zR (0, 0, 0), xR ap, zI (nI (rN a)), zI (mxf fS (rN a - 1)), zI (nI c), zL (sml (fun r' => (rowS D 0 r').toInt64) (r + 1)), zN, zL (sml (fun r' => (nI r').toInt64 * (ringS D r').toInt64) r), zN, zI (sm (ringS (inD D)) (r + 1)), zL m, zN, zI (nI r), zI (ringS D r), zN, zN]) (by repeat' constructor) ?_
                    exact hend m zN hm
                  · have hk := nnle (a := 48) hk
                    refine j_aload_n dL_whole_122 rfl rfl ?_
                    refine j_iload dL_whole_123 rfl ?_
                    refine j_iload dL_whole_125 rfl ?_
                    refine j_bipush (v := 24) dL_whole_127 (by decide) ?_
                    refine j_idiv dL_whole_129 (by decide) ?_
                    refine j_top ((div_nI (i := k) (m := 24) (by omega) (by omega) (by omega))) ?_
                    refine j_iload dL_whole_130 rfl ?_
                    refine j_iload dL_whole_132 rfl ?_
                    refine j_bipush (v := 24) dL_whole_134 (by decide) ?_
                    refine j_irem dL_whole_136 (by decide) ?_
                    refine j_top ((rem_nI (i := k) (m := 24) (by omega) (by omega) (by omega))) ?_
                    refine j_cVi (o_dye h _ _ _ _) q_X3_dye tw_338 dL_whole_137 rfl rfl rfl (by omega) (Nat.le_of_ble_eq_true rfl) (by omega) (by omega) ?_ zv_0
                    refine j_top (((rv_dye (L := k / 24) (s := k % 24) rfl hc (by omega) hr hn12 (Nat.mod_lt _ (by omega))).trans (show aD a c (rwi (k / 24) r + cel a r (nI (k % 24))) = dK a D r k by rw [hDD]; rfl))) ?_
                    have hnn : 0 ≤ (dK a D r k).toInt := hD.1 _ (dK_ix a (by omega) hk)
                    have hms := MX_s hm
                    refine j_istore dL_whole_140 (by decide) rfl ?_
                    refine j_iload dL_whole_142 rfl ?_
                    refine j_if_ge (tgt := 149) dL_whole_144 (by decide) (fun _ => ?_) (fun h9 => absurd ((by rw [Int32.le_iff_toInt_le, Int32.toInt_zero]; exact hnn)) h9)
                    refine j_iload dL_whole_149 rfl ?_
                    refine j_iload dL_whole_151 rfl ?_
                    refine j_iadd dL_whole_153 ?_
                    refine j_istore dL_whole_154 (by decide) rfl ?_
                    refine j_lload dL_whole_156 rfl ?_
                    refine j_iload dL_whole_158 rfl ?_
                    refine j_bipush (v := 24) dL_whole_160 (by decide) ?_
                    have j207 : ∀ m', MX a D r (k + 1) m' → Xj K 7 0 0 "DyeTankLaw" method_7_code 16 207 [zR (0, 0, 0), xR ap, zI (nI (rN a)), zI (mxf fS (rN a - 1)), zI (nI c), zL (sml (fun r' => (rowS D 0 r').toInt64) r + sml (tpK a D r) (k + 1)), zN, zL (sml (fun r' => (nI r').toInt64 * (ringS D r').toInt64) r), zN, zI (sm (ringS (inD D)) r + sm (dK a (inD D) r) (k + 1)), zL m, zN, zI (nI r), zI (sm (dK a D r) (k + 1)), zI (nI k), zI (dK a D r k)] [zL m'] μ [(ap, 3, fp)] 0 0 := by
                      intro m' hm'
                      refine j_lstore dL_whole_207 (by decide) rfl ?_
                      refine j_iinc dL_whole_209 rfl (inc1 _) (by decide) rfl ?_
                      refine j_goto (tgt := 115) dL_whole_212 (by decide) ?_
                      refine j_less (ls' := [zR (0, 0, 0), xR ap, zI (nI (rN a)), zI (mxf fS (rN a - 1)), zI (nI c), zL (sml (fun r' => (rowS D 0 r').toInt64) r + sml (tpK a D r) (k + 1)), zN, zL (sml (fun r' => (nI r').toInt64 * (ringS D r').toInt64) r), zN, zI (sm (ringS (inD D)) r + sm (dK a (inD D) r) (k + 1)), zL m', zN, zI (nI r), zI (sm (dK a D r) (k + 1)), zI (nI (k + 1)), zN]) (by repeat' constructor) ?_
                      exact ih (k + 1) m' (by omega) (by omega) hm' hend
                    have j187 : ∀ b, b = dK a (inD D) r k → Xj K 7 0 0 "DyeTankLaw" method_7_code 16 187 [zR (0, 0, 0), xR ap, zI (nI (rN a)), zI (mxf fS (rN a - 1)), zI (nI c), zL (sml (fun r' => (rowS D 0 r').toInt64) r + sml (tpK a D r) (k + 1)), zN, zL (sml (fun r' => (nI r').toInt64 * (ringS D r').toInt64) r), zN, zI (sm (ringS (inD D)) r + sm (dK a (inD D) r) k), zL m, zN, zI (nI r), zI (sm (dK a D r) (k + 1)), zI (nI k), zI (dK a D r k)] [zI b, zI (sm (ringS (inD D)) r + sm (dK a (inD D) r) k)] μ [(ap, 3, fp)] 0 0 := by
                      intro b hb
                      subst hb
                      refine j_iadd dL_whole_187 ?_
                      refine j_top ((show sm (ringS (inD D)) r + sm (dK a (inD D) r) k + dK a (inD D) r k = sm (ringS (inD D)) r + sm (dK a (inD D) r) (k + 1) by rw [sm, Int32.add_assoc])) ?_
                      refine j_istore dL_whole_188 (by decide) rfl ?_
                      refine j_iload dL_whole_190 rfl ?_
                      refine j_i2l dL_whole_192 ?_
                      refine j_lload dL_whole_193 rfl ?_
                      refine j_lcmp dL_whole_195 ?_
                      refine j_if_le (tgt := 205) dL_whole_196 (by decide) (fun q => ?_) (fun q => ?_)
                      · refine j_lload dL_whole_205 rfl ?_
                        rw [if_pos q] at hms
                        exact j207 m hms
                      · refine j_iload dL_whole_199 rfl ?_
                        refine j_i2l dL_whole_201 ?_
                        refine j_goto (tgt := 207) dL_whole_202 (by decide) ?_
                        rw [if_neg q] at hms
                        exact j207 _ hms
                    have j172 : ∀ x, x = tpK a D r k → Xj K 7 0 0 "DyeTankLaw" method_7_code 16 172 [zR (0, 0, 0), xR ap, zI (nI (rN a)), zI (mxf fS (rN a - 1)), zI (nI c), zL (sml (fun r' => (rowS D 0 r').toInt64) r + sml (tpK a D r) k), zN, zL (sml (fun r' => (nI r').toInt64 * (ringS D r').toInt64) r), zN, zI (sm (ringS (inD D)) r + sm (dK a (inD D) r) k), zL m, zN, zI (nI r), zI (sm (dK a D r) (k + 1)), zI (nI k), zI (dK a D r k)] [zL x, zL (sml (fun r' => (rowS D 0 r').toInt64) r + sml (tpK a D r) k)] μ [(ap, 3, fp)] 0 0 := by
                      intro x hx
                      subst hx
                      refine j_ladd dL_whole_172 ?_
                      refine j_topl ((show sml (fun r' => (rowS D 0 r').toInt64) r + sml (tpK a D r) k + tpK a D r k = sml (fun r' => (rowS D 0 r').toInt64) r + sml (tpK a D r) (k + 1) by rw [sml, Int64.add_assoc])) ?_
                      refine j_lstore dL_whole_173 (by decide) rfl ?_
                      refine j_iload dL_whole_175 rfl ?_
                      refine j_iload dL_whole_177 rfl ?_
                      refine j_if_le (tgt := 186) dL_whole_179 (by decide) (fun q => ?_) (fun q => ?_)
                      · refine j_iconst (v := 0) dL_whole_186 (by decide) ?_
                        exact j187 0 (if_neg (by rw [Int32.lt_iff_toInt_lt]; rw [Int32.le_iff_toInt_le] at q; exact Int.not_lt.mpr q)).symm
                      · refine j_iconst (v := 1) dL_whole_182 (by decide) ?_
                        refine j_goto (tgt := 187) dL_whole_183 (by decide) ?_
                        exact j187 1 (if_pos (Int32.not_le.mp q)).symm
                    refine j_icmp_ge (tgt := 171) dL_whole_162 (by decide) (fun q => ?_) (fun q => ?_)
                    · have q := nle (a := 24) q
                      refine j_lconst (v := 0) dL_whole_171 (by decide) ?_
                      exact j172 0 (if_neg (by omega)).symm
                    · have q := nnle (a := 24) q
                      refine j_iload dL_whole_165 rfl ?_
                      refine j_i2l dL_whole_167 ?_
                      refine j_goto (tgt := 172) dL_whole_168 (by decide) ?_
                      exact j172 _ (if_pos q).symm
              refine j_ls (ls' := [zR (0, 0, 0), xR ap, zI (nI (rN a)), zI (mxf fS (rN a - 1)), zI (nI c), zL (sml (fun r' => (rowS D 0 r').toInt64) r + sml (tpK a D r) 0), zN, zL (sml (fun r' => (nI r').toInt64 * (ringS D r').toInt64) r), zN, zI (sm (ringS (inD D)) r + sm (dK a (inD D) r) 0), zL m, zN, zI (nI r), zI (sm (dK a D r) 0), zI (nI 0), zN]) (by rw [sml, sm, Int64.add_zero, Int32.add_zero]; rfl) ?_
              refine lD 49 0 m (by omega) (by omega) hm (fun m x hm => ?_)
              refine j_aload_n dL_whole_215 rfl rfl ?_
              refine j_iload dL_whole_216 rfl ?_
              refine j_iconst (v := 4) dL_whole_218 (by decide) ?_
              refine j_iload dL_whole_219 rfl ?_
              refine j_iadd dL_whole_221 ?_
              refine j_cVi (o_ring h _ _) q_X3_ring tw_228 dL_whole_222 rfl rfl rfl (by omega) (Nat.le_of_ble_eq_true rfl) (by omega) (by omega) ?_ zv_0
              refine j_top (((rv_sum rfl hr hn12 hc).trans (show ringS (aD a c) r = ringS D r by rw [hDD]))) ?_
              refine j_iload dL_whole_225 rfl ?_
              refine j_icmp_eq (tgt := 232) dL_whole_227 (by decide) (fun _ => ?_) (fun h9 => absurd (rfl) h9)
              refine j_lload dL_whole_232 rfl ?_
              refine j_iload dL_whole_234 rfl ?_
              refine j_i2l dL_whole_236 ?_
              refine j_iload dL_whole_237 rfl ?_
              refine j_i2l dL_whole_239 ?_
              refine j_lmul dL_whole_240 ?_
              refine j_ladd dL_whole_241 ?_
              refine j_topl ((show sml (fun r' => (nI r').toInt64 * (ringS D r').toInt64) r + (nI r).toInt64 * (ringS D r).toInt64 = sml (fun r' => (nI r').toInt64 * (ringS D r').toInt64) (r + 1) from rfl)) ?_
              refine j_lstore dL_whole_242 (by decide) rfl ?_
              refine j_iinc dL_whole_244 rfl (inc1 _) (by decide) rfl ?_
              refine j_goto (tgt := 103) dL_whole_247 (by decide) ?_
              refine j_less (ls' := [zR (0, 0, 0), xR ap, zI (nI (rN a)), zI (mxf fS (rN a - 1)), zI (nI c), zL (sml (fun r' => (rowS D 0 r').toInt64) (r + 1)), zN, zL (sml (fun r' => (nI r').toInt64 * (ringS D r').toInt64) (r + 1)), zN, zI (sm (ringS (inD D)) (r + 1)), zL m, zN, zI (nI (r + 1)), zN, zN, zN]) (by repeat' constructor) ?_
              exact ih (r + 1) m (by omega) (by omega) (MX_r hm) hend
        refine lC (rN a + 1) 0 0 (by omega) (by omega) (MX_0 a D) (fun m hm => ?_)
        refine j_aload_n dL_whole_250 rfl rfl ?_
        refine j_iload dL_whole_251 rfl ?_
        refine j_iald (k0 := 0) dL_whole_253 rfl rfl hc (by decide) ?_
        refine j_istore dL_whole_254 (by decide) rfl ?_
        refine j_aload_n dL_whole_256 rfl rfl ?_
        refine j_iload dL_whole_257 rfl ?_
        refine j_iconst (v := 0) dL_whole_259 (by decide) ?_
        refine j_cVl (o_colour h _ _) q_X3_colour tw_400 dL_whole_260 rfl rfl rfl (by omega) (Nat.le_of_ble_eq_true rfl) (by omega) (by omega) ?_ zv_0
        refine j_topl (e0) ?_
        refine j_iload dL_whole_263 rfl ?_
        refine j_i2l dL_whole_265 ?_
        refine j_lcmp dL_whole_266 ?_
        refine j_if_ne (tgt := 372) dL_whole_267 (by decide) (fun h9 => absurd h9 (fun q => q ((lg_cmp_eq _ _).mpr rfl))) (fun _ => ?_)
        refine j_aload_n dL_whole_270 rfl rfl ?_
        refine j_iload dL_whole_271 rfl ?_
        refine j_iconst (v := 1) dL_whole_273 (by decide) ?_
        refine j_cVl (o_colour h _ _) q_X3_colour tw_400 dL_whole_274 rfl rfl rfl (by omega) (Nat.le_of_ble_eq_true rfl) (by omega) (by omega) ?_ zv_0
        refine j_topl (e1) ?_
        refine j_lload dL_whole_277 rfl ?_
        refine j_lcmp dL_whole_279 ?_
        refine j_if_ne (tgt := 372) dL_whole_280 (by decide) (fun h9 => absurd h9 (fun q => q ((lg_cmp_eq _ _).mpr (top_eq hn12 hD).symm))) (fun _ => ?_)
        refine j_aload_n dL_whole_283 rfl rfl ?_
        refine j_iload dL_whole_284 rfl ?_
        refine j_iconst (v := 2) dL_whole_286 (by decide) ?_
        refine j_cVl (o_colour h _ _) q_X3_colour tw_400 dL_whole_287 rfl rfl rfl (by omega) (Nat.le_of_ble_eq_true rfl) (by omega) (by omega) ?_ zv_0
        refine j_topl (e2) ?_
        refine j_iload dL_whole_290 rfl ?_
        refine j_i2l dL_whole_292 ?_
        refine j_lcmp dL_whole_293 ?_
        refine j_if_ne (tgt := 372) dL_whole_294 (by decide) (fun h9 => absurd h9 (fun q => q ((lg_cmp_eq _ _).mpr (by rw [many_eq a hn12 hD])))) (fun _ => ?_)
        refine j_aload_n dL_whole_297 rfl rfl ?_
        refine j_iload dL_whole_298 rfl ?_
        refine j_iconst (v := 3) dL_whole_300 (by decide) ?_
        refine j_cVl (o_colour h _ _) q_X3_colour tw_400 dL_whole_301 rfl rfl rfl (by omega) (Nat.le_of_ble_eq_true rfl) (by omega) (by omega) ?_ zv_0
        refine j_topl (e3) ?_
        refine j_lload dL_whole_304 rfl ?_
        refine j_lcmp dL_whole_306 ?_
        refine j_if_ne (tgt := 372) dL_whole_307 (by decide) (fun h9 => absurd h9 (fun q => q ((lg_cmp_eq _ _).mpr (MX_end hn12 hD hm)))) (fun _ => ?_)
        refine j_aload_n dL_whole_310 rfl rfl ?_
        refine j_iload dL_whole_311 rfl ?_
        refine j_iconst (v := 4) dL_whole_313 (by decide) ?_
        refine j_cVl (o_colour h _ _) q_X3_colour tw_400 dL_whole_314 rfl rfl rfl (by omega) (Nat.le_of_ble_eq_true rfl) (by omega) (by omega) ?_ zv_0
        refine j_topl (e4) ?_
        have j338 : ∀ x, x = meanP D (rN a) (fp c) → Xj K 7 0 0 "DyeTankLaw" method_7_code 16 338 [zR (0, 0, 0), xR ap, zI (nI (rN a)), zI (mxf fS (rN a - 1)), zI (nI c), zL (sml (fun r' => (rowS D 0 r').toInt64) (rN a)), zN, zL (sml (fun r' => (nI r').toInt64 * (ringS D r').toInt64) (rN a)), zN, zI (sm (ringS (inD D)) (rN a)), zL m, zN, zI (fp c), zN, zN, zN] [zL x, zL (meanP D (rN a) (fp c))] μ [(ap, 3, fp)] 0 0 := by
          intro x hx
          subst hx
          refine j_lcmp dL_whole_338 ?_
          refine j_if_ne (tgt := 372) dL_whole_339 (by decide) (fun h9 => absurd h9 (fun q => q ((lg_cmp_eq _ _).mpr rfl))) (fun _ => ?_)
          refine j_aload_n dL_whole_342 rfl rfl ?_
          refine j_iload dL_whole_343 rfl ?_
          refine j_iconst (v := 5) dL_whole_345 (by decide) ?_
          refine j_cVl (o_colour h _ _) q_X3_colour tw_400 dL_whole_346 rfl rfl rfl (by omega) (Nat.le_of_ble_eq_true rfl) (by omega) (by omega) ?_ zv_0
          refine j_topl (e5) ?_
          refine j_lconst (v := 0) dL_whole_349 (by decide) ?_
          refine j_lcmp dL_whole_350 ?_
          refine j_if_lt (tgt := 372) dL_whole_351 (by decide) (fun h9 => absurd h9 (fun q => hun.1 ((lg_cmp_lt _ _).mp q))) (fun _ => ?_)
          refine j_aload_n dL_whole_354 rfl rfl ?_
          refine j_iload dL_whole_355 rfl ?_
          refine j_iconst (v := 5) dL_whole_357 (by decide) ?_
          refine j_cVl (o_colour h _ _) q_X3_colour tw_400 dL_whole_358 rfl rfl rfl (by omega) (Nat.le_of_ble_eq_true rfl) (by omega) (by omega) ?_ zv_0
          refine j_topl (e5) ?_
          refine j_ldc2 (v := 2) dL_whole_361 tw_433 ?_
          refine j_iload dL_whole_364 rfl ?_
          refine j_i2l dL_whole_366 ?_
          refine j_lmul dL_whole_367 ?_
          refine j_lcmp dL_whole_368 ?_
          refine j_if_le (tgt := 374) dL_whole_369 (by decide) (fun _ => ?_) (fun h9 => absurd (((lg_cmp_le _ _).mpr hun.2)) h9)
          refine j_iinc dL_whole_374 rfl (inc1 _) (by decide) rfl ?_
          refine j_goto (tgt := 82) dL_whole_377 (by decide) ?_
          refine j_less (ls' := [zR (0, 0, 0), xR ap, zI (nI (rN a)), zI (mxf fS (rN a - 1)), zI (nI (c + 1)), zN, zN, zN, zN, zN, zN, zN, zN, zN, zN, zN]) (by repeat' constructor) ?_
          exact ih (c + 1) (by omega) (by omega)
        refine j_iload dL_whole_317 rfl ?_
        refine j_if_ne (tgt := 328) dL_whole_319 (by decide) (fun q => ?_) (fun q => ?_)
        · refine j_ldc2 (v := 1000) dL_whole_328 tw_432 ?_
          refine j_lload dL_whole_331 rfl ?_
          refine j_lmul dL_whole_333 ?_
          refine j_iload dL_whole_334 rfl ?_
          refine j_i2l dL_whole_336 ?_
          refine j_ldiv dL_whole_337 (toI64_ne q) ?_
          exact j338 _ (by rw [meanP, if_neg q])
        · refine j_ldc2 (v := -6) dL_whole_322 tw_431 ?_
          refine j_goto (tgt := 338) dL_whole_325 (by decide) ?_
          exact j338 _ (by rw [meanP, if_pos q])
  refine lB 4 0 (by omega) (by omega)
