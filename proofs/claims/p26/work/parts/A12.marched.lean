/-! marched() of the law -/
set_option maxRecDepth 100000 in
theorem k_marched {μ : zM} {a : rw} {S : Nat → Option rw} {t N : Nat} (h : OK μ a S 0) (hw : Lw a t) (hN : N ≤ 100) (ht : t + N ≤ 99000) (E : xE) : xCs yL_marched method_6_code 14 (some .boolean) 7 4 36 [zR (0, 0, 0), zI (nI N)] μ E (fun μ' E' => E' = E ∧ OK μ' (itF N a) S 0) := by
  refine xCt.of "DyeTankLaw" rfl (by decide +kernel) rfl (Nat.le_of_ble_eq_true rfl) (fun K hR => ?_)
  obtain ⟨hn2, hn12⟩ := Full_n h.2.1
  have hB := Full_IB h.2.1
  refine j_ls (ls' := [zR (0, 0, 0), zI (nI N), zN, zN, zN, zN, zN, zN, zN, zN, zN, zN, zN, zN]) rfl ?_
  refine j_aload_n dL_marched_0 rfl rfl ?_
  refine j_iconst (v := 1) dL_marched_1 (by decide) ?_
  refine j_cVi (o_state h 1) q_X3_state tw_196 dL_marched_2 rfl rfl rfl (by omega) (Nat.le_of_ble_eq_true rfl) (by omega) (by omega) ?_ zv_0
  refine j_top ((st_1.trans hB.1)) ?_
  generalize hn : rN a = n at hn2 hn12
  refine j_istore_n dL_marched_5 rfl (by decide) rfl ?_
  refine j_bipush (v := 12) dL_marched_6 (by decide) ?_
  refine j_newI (N := 12) dL_marched_8 rfl (by decide) (by omega) (by omega) (fun q1 => ?_)
  refine j_astore_n dL_marched_10 rfl (by decide) rfl ?_
  refine j_bipush (v := 12) dL_marched_11 (by decide) ?_
  refine j_newI (N := 12) dL_marched_13 rfl (by decide) (by omega) (by omega) (fun q2 => ?_)
  refine j_astore dL_marched_15 (by decide) rfl ?_
  refine j_bipush (v := 6) dL_marched_17 (by decide) ?_
  refine j_newI (N := 6) dL_marched_19 rfl (by decide) (by omega) (by omega) (fun q3 => ?_)
  refine j_astore dL_marched_21 (by decide) rfl ?_
  refine j_bipush (v := 6) dL_marched_23 (by decide) ?_
  refine j_newI (N := 6) dL_marched_25 rfl (by decide) (by omega) (by omega) (fun q4 => ?_)
  refine j_astore dL_marched_27 (by decide) rfl ?_
  refine j_iconst (v := 0) dL_marched_29 (by decide) ?_
  refine j_istore dL_marched_30 (by decide) rfl ?_
  have outer : ∀ (f i : Nat) (μ : zM) (f1 f2 f3 f4 : Nat → Int32), i ≤ N → N < i + f → OK μ (itF i a) S 0 → Xj K 7 4 36 "DyeTankLaw" method_6_code 14 32 [zR (0, 0, 0), zI (nI N), zI (nI n), xR q1, xR q2, xR q3, xR q4, zI (nI i), zN, zN, zN, zN, zN, zN] [] μ ((q4, 6, f4) :: (q3, 6, f3) :: (q2, 12, f2) :: (q1, 12, f1) :: E) 4 36 := by
    intro f
    induction f with
    | zero => intro i μ f1 f2 f3 f4 h1 h2 h3; exact absurd ‹_ < _ + 0› (by omega)
    | succ f ih =>
      intro i μ f1 f2 f3 f4 hi1 hi2 hb
      refine j_iload dL_marched_32 rfl ?_
      refine j_iload_n dL_marched_34 rfl rfl ?_
      refine j_icmp_ge (tgt := 517) dL_marched_35 (by decide) (fun hc => ?_) (fun hc => ?_)
      · have hc := nle hc
        have e : i = N := by omega
        subst e
        refine j_iconst (v := 1) dL_marched_517 (by decide) ?_
        refine j_drop (j_drop (j_drop (j_drop ?_)))
        refine j_bret hR dL_marched_518 (Or.inr rfl) (⟨rfl, rfl, hb⟩) (by omega) (by omega)
      · have hc := nnle hc
        have hF := hb.2.1
        have hwb := hw.it h.2.1 i (by omega) (by omega)
        have en : rN (itF i a) = n := by rw [it_N, hn]
        have enx : itF (i + 1) a = tickF (itF i a) := rfl
        have ih2 := ih (i + 1)
        rw [enx] at ih2
        generalize itF i a = b at hb hF hwb en ih2
        have hB := Full_IB hF
        have hk6 := hB.2.2.2.2
        refine j_aload_n dL_marched_38 rfl rfl ?_
        refine j_iconst (v := 0) dL_marched_39 (by decide) ?_
        refine j_cVi (o_state hb 0) q_X3_state tw_196 dL_marched_40 rfl rfl rfl (by omega) (Nat.le_of_ble_eq_true rfl) (by omega) (by omega) ?_ zv_0
        refine j_top ((state0.trans hwb.1)) ?_
        refine j_istore dL_marched_43 (by decide) rfl ?_
        refine j_aload_n dL_marched_45 rfl rfl ?_
        refine j_iconst (v := 3) dL_marched_46 (by decide) ?_
        refine j_cVi (o_state hb 3) q_X3_state tw_196 dL_marched_47 rfl rfl rfl (by omega) (Nat.le_of_ble_eq_true rfl) (by omega) (by omega) ?_ zv_0
        refine j_top ((sv_3 en)) ?_
        refine j_istore dL_marched_50 (by decide) rfl ?_
        refine j_iconst (v := 0) dL_marched_52 (by decide) ?_
        refine j_istore dL_marched_53 (by decide) rfl ?_
        -- what was: velocities and angles
        have l1 : ∀ (f r : Nat) (f1 f2 : Nat → Int32), r ≤ n → n < r + f → (∀ j, j < r → f1 j = vel (aP b) j) → (∀ j, j < r → f2 j = aA b j) → (∀ f1 f2 : Nat → Int32, (∀ j, j < n → f1 j = vel (aP b) j) → (∀ j, j < n → f2 j = aA b j) → Xj K 7 4 36 "DyeTankLaw" method_6_code 14 90 [zR (0, 0, 0), zI (nI N), zI (nI n), xR q1, xR q2, xR q3, xR q4, zI (nI i), zI (nI (t + i)), zI (sm (aP b) n), zI (nI n), zN, zN, zN] [] μ ((q4, 6, f4) :: (q3, 6, f3) :: (q2, 12, f2) :: (q1, 12, f1) :: E) 4 36) → Xj K 7 4 36 "DyeTankLaw" method_6_code 14 55 [zR (0, 0, 0), zI (nI N), zI (nI n), xR q1, xR q2, xR q3, xR q4, zI (nI i), zI (nI (t + i)), zI (sm (aP b) n), zI (nI r), zN, zN, zN] [] μ ((q4, 6, f4) :: (q3, 6, f3) :: (q2, 12, f2) :: (q1, 12, f1) :: E) 4 36 := by
          intro f
          induction f with
          | zero => intro r f1 f2 h1 h2 h3 h4 h5; exact absurd ‹_ < _ + 0› (by omega)
          | succ f ih =>
            intro r f1 f2 hr1 hr2 hf1 hf2 hend
            refine j_iload dL_marched_55 rfl ?_
            refine j_iload_n dL_marched_57 rfl rfl ?_
            refine j_icmp_ge (tgt := 90) dL_marched_58 (by decide) (fun hd => ?_) (fun hd => ?_)
            · have hd := nle hd
              have e : r = n := by omega
              subst e
              exact hend f1 f2 hf1 hf2
            · have hd := nnle hd
              refine j_aload_n dL_marched_61 rfl rfl ?_
              refine j_iload dL_marched_62 rfl ?_
              refine j_aload_n dL_marched_64 rfl rfl ?_
              refine j_iload dL_marched_65 rfl ?_
              refine j_iconst (v := 0) dL_marched_67 (by decide) ?_
              refine j_cVi (o_ring hb _ _) q_X3_ring tw_228 dL_marched_68 rfl rfl rfl (by omega) (Nat.le_of_ble_eq_true rfl) (by omega) (by omega) ?_ zv_0
              refine j_top ((rv_vel en hd hn12)) ?_
              refine j_iast (k0 := 3) dL_marched_71 rfl rfl (by omega) (by decide) ?_
              refine j_aload dL_marched_72 rfl ?_
              refine j_iload dL_marched_74 rfl ?_
              refine j_aload_n dL_marched_76 rfl rfl ?_
              refine j_iload dL_marched_77 rfl ?_
              refine j_iconst (v := 2) dL_marched_79 (by decide) ?_
              refine j_cVi (o_ring hb _ _) q_X3_ring tw_228 dL_marched_80 rfl rfl rfl (by omega) (Nat.le_of_ble_eq_true rfl) (by omega) (by omega) ?_ zv_0
              refine j_top ((rv_ang en hd hn12)) ?_
              refine j_iast (k0 := 2) dL_marched_83 rfl rfl (by omega) (by decide) ?_
              refine j_iinc dL_marched_84 rfl (inc1 _) (by decide) rfl ?_
              refine j_goto (tgt := 55) dL_marched_87 (by decide) ?_
              refine ih (r + 1) _ _ (by omega) (by omega) (fun j hj => ?_) (fun j hj => ?_) hend
              · unfold upd
                split
                · next e => rw [e]
                · exact hf1 j (by omega)
              · unfold upd
                split
                · next e => rw [e]
                · exact hf2 j (by omega)
        refine l1 (n + 1) 0 f1 f2 (by omega) (by omega) (fun j hj => by omega) (fun j hj => by omega) (fun f1 f2 hf1 hf2 => ?_)
        refine j_iconst (v := 0) dL_marched_90 (by decide) ?_
        refine j_istore dL_marched_91 (by decide) rfl ?_
        have l2 : ∀ (f m : Nat) (f3 f4 : Nat → Int32), m ≤ rK b → rK b < m + f → (∀ j, j < m → f3 j = b (34 + 104 * j)) → (∀ j, j < m → f4 j = b (34 + 104 * j + 1)) → (∀ f3 f4 : Nat → Int32, (∀ j, j < rK b → f3 j = b (34 + 104 * j)) → (∀ j, j < rK b → f4 j = b (34 + 104 * j + 1)) → Xj K 7 4 36 "DyeTankLaw" method_6_code 14 133 [zR (0, 0, 0), zI (nI N), zI (nI n), xR q1, xR q2, xR q3, xR q4, zI (nI i), zI (nI (t + i)), zI (sm (aP b) n), zN, zN, zN, zN] [] μ ((q4, 6, f4) :: (q3, 6, f3) :: (q2, 12, f2) :: (q1, 12, f1) :: E) 4 36) → Xj K 7 4 36 "DyeTankLaw" method_6_code 14 93 [zR (0, 0, 0), zI (nI N), zI (nI n), xR q1, xR q2, xR q3, xR q4, zI (nI i), zI (nI (t + i)), zI (sm (aP b) n), zI (nI m), zN, zN, zN] [] μ ((q4, 6, f4) :: (q3, 6, f3) :: (q2, 12, f2) :: (q1, 12, f1) :: E) 4 36 := by
          intro f
          induction f with
          | zero => intro m f3 f4 h1 h2 h3 h4 h5; exact absurd ‹_ < _ + 0› (by omega)
          | succ f ih =>
            intro m f3 f4 hm1 hm2 hf3 hf4 hend
            refine j_iload dL_marched_93 rfl ?_
            refine j_aload_n dL_marched_95 rfl rfl ?_
            refine j_iconst (v := 2) dL_marched_96 (by decide) ?_
            refine j_cVi (o_state hb 2) q_X3_state tw_196 dL_marched_97 rfl rfl rfl (by omega) (Nat.le_of_ble_eq_true rfl) (by omega) (by omega) ?_ zv_0
            refine j_top ((st_2.trans hB.2.2.2.1)) ?_
            refine j_icmp_ge (tgt := 133) dL_marched_100 (by decide) (fun hd => ?_) (fun hd => ?_)
            · have hd := nle hd
              have e : m = rK b := by omega
              refine j_less (ls' := [zR (0, 0, 0), zI (nI N), zI (nI n), xR q1, xR q2, xR q3, xR q4, zI (nI i), zI (nI (t + i)), zI (sm (aP b) n), zN, zN, zN, zN]) (by repeat' constructor) ?_
              exact hend f3 f4 (fun j hj => hf3 j (by omega)) (fun j hj => hf4 j (by omega))
            · have hd := nnle hd
              refine j_aload dL_marched_103 rfl ?_
              refine j_iload dL_marched_105 rfl ?_
              refine j_aload_n dL_marched_107 rfl rfl ?_
              refine j_iload dL_marched_108 rfl ?_
              refine j_iconst (v := 0) dL_marched_110 (by decide) ?_
              refine j_cVi (o_where hb _ _) q_X3_where tw_256 dL_marched_111 rfl rfl rfl (by omega) (Nat.le_of_ble_eq_true rfl) (by omega) (by omega) ?_ zv_0
              refine j_top ((wh_0 hd hk6)) ?_
              refine j_iast (k0 := 1) dL_marched_114 rfl rfl (by omega) (by decide) ?_
              refine j_aload dL_marched_115 rfl ?_
              refine j_iload dL_marched_117 rfl ?_
              refine j_aload_n dL_marched_119 rfl rfl ?_
              refine j_iload dL_marched_120 rfl ?_
              refine j_iconst (v := 1) dL_marched_122 (by decide) ?_
              refine j_cVi (o_where hb _ _) q_X3_where tw_256 dL_marched_123 rfl rfl rfl (by omega) (Nat.le_of_ble_eq_true rfl) (by omega) (by omega) ?_ zv_0
              refine j_top ((wh_1 hd hk6)) ?_
              refine j_iast (k0 := 0) dL_marched_126 rfl rfl (by omega) (by decide) ?_
              refine j_iinc dL_marched_127 rfl (inc1 _) (by decide) rfl ?_
              refine j_goto (tgt := 93) dL_marched_130 (by decide) ?_
              refine ih (m + 1) _ _ (by omega) (by omega) (fun j hj => ?_) (fun j hj => ?_) hend
              · unfold upd
                split
                · next e => rw [e]
                · exact hf3 j (by omega)
              · unfold upd
                split
                · next e => rw [e]
                · exact hf4 j (by omega)
        refine l2 (rK b + 1) 0 f3 f4 (by omega) (by omega) (fun j hj => by omega) (fun j hj => by omega) (fun f3 f4 hf3 hf4 => ?_)
        refine j_aload_n dL_marched_133 rfl rfl ?_
        refine j_iconst (v := 1) dL_marched_134 (by decide) ?_
        refine j_cVs (g_tick hb (M := 1) hwb.1 (by omega) (by omega)) q_X3_tick tw_268 dL_marched_135 rfl rfl rfl (by omega) (Nat.le_of_ble_eq_true rfl) (by omega) (by omega) (fun μ2 w ⟨ew, hb2⟩ => ?_) zv_0
        have hb2 : OK μ2 (tickF b) S 0 := hb2
        subst ew
        refine j_iload dL_marched_138 rfl ?_
        refine j_iconst (v := 1) dL_marched_140 (by decide) ?_
        refine j_iadd dL_marched_141 ?_
        refine j_icmp_eq (tgt := 147) dL_marched_142 (by decide) (fun _ => ?_) (fun h9 => absurd ((nI_add (t + i) 1).symm) h9)
        have hF2 := hb2.2.1
        have en2 : rN (tickF b) = n := by rw [tick_N, en]
        have ek2 : rK (tickF b) = rK b := tick_K
        refine j_aload_n dL_marched_147 rfl rfl ?_
        refine j_bipush (v := 7) dL_marched_148 (by decide) ?_
        refine j_cVi (o_state hb2 7) q_X3_state tw_196 dL_marched_150 rfl rfl rfl (by omega) (Nat.le_of_ble_eq_true rfl) (by omega) (by omega) ?_ zv_0
        refine j_top ((st_7.trans (tick_S (by omega)))) ?_
        refine j_aload_n dL_marched_153 rfl rfl ?_
        refine j_bipush (v := 8) dL_marched_154 (by decide) ?_
        refine j_cVi (o_state hb2 8) q_X3_state tw_196 dL_marched_156 rfl rfl rfl (by omega) (Nat.le_of_ble_eq_true rfl) (by omega) (by omega) ?_ zv_0
        refine j_top ((st_8.trans (tick_S (by omega)))) ?_
        refine j_aload_n dL_marched_159 rfl rfl ?_
        refine j_iload_n dL_marched_160 rfl rfl ?_
        refine j_iconst (v := 1) dL_marched_161 (by decide) ?_
        refine j_isub dL_marched_162 ?_
        refine j_top ((nI_s1 (show 1 ≤ n by omega))) ?_
        refine j_iald (k0 := 3) dL_marched_163 rfl rfl (by omega) (by decide) ?_
        refine j_isub dL_marched_164 ?_
        refine j_imul dL_marched_165 ?_
        refine j_bipush (v := 100) dL_marched_166 (by decide) ?_
        refine j_idiv dL_marched_168 (by decide) ?_
        refine j_top ((show aS b 1 * (aS b 2 - f1 (n - 1)) / 100 = dueF (aS b) (aP b) n 0 by rw [hf1 _ (by omega), dueF, sm, Int32.add_zero])) ?_
        refine j_istore dL_marched_169 (by decide) rfl ?_
        refine j_iconst (v := 0) dL_marched_171 (by decide) ?_
        refine j_istore dL_marched_172 (by decide) rfl ?_
        have l3 : ∀ (f r : Nat), r ≤ n → n < r + f → Xj K 7 4 36 "DyeTankLaw" method_6_code 14 220 [zR (0, 0, 0), zI (nI N), zI (nI n), xR q1, xR q2, xR q3, xR q4, zI (nI i), zI (nI (t + i)), zI (sm (aP b) n), zI (dueF (aS b) (aP b) n n), zI (nI n), zN, zN] [] μ2 ((q4, 6, f4) :: (q3, 6, f3) :: (q2, 12, f2) :: (q1, 12, f1) :: E) 4 36 → Xj K 7 4 36 "DyeTankLaw" method_6_code 14 174 [zR (0, 0, 0), zI (nI N), zI (nI n), xR q1, xR q2, xR q3, xR q4, zI (nI i), zI (nI (t + i)), zI (sm (aP b) n), zI (dueF (aS b) (aP b) n r), zI (nI r), zN, zN] [] μ2 ((q4, 6, f4) :: (q3, 6, f3) :: (q2, 12, f2) :: (q1, 12, f1) :: E) 4 36 := by
          intro f
          induction f with
          | zero => intro r h1 h2 h3; exact absurd ‹_ < _ + 0› (by omega)
          | succ f ih =>
            intro r hr1 hr2 hend
            refine j_iload dL_marched_174 rfl ?_
            refine j_iload_n dL_marched_176 rfl rfl ?_
            refine j_icmp_ge (tgt := 220) dL_marched_177 (by decide) (fun hd => ?_) (fun hd => ?_)
            · have hd := nle hd
              have e : r = n := by omega
              subst e
              exact hend
            · have hd := nnle hd
              refine j_iload dL_marched_180 rfl ?_
              refine j_aload_n dL_marched_182 rfl rfl ?_
              refine j_bipush (v := 9) dL_marched_183 (by decide) ?_
              refine j_cVi (o_state hb2 9) q_X3_state tw_196 dL_marched_185 rfl rfl rfl (by omega) (Nat.le_of_ble_eq_true rfl) (by omega) (by omega) ?_ zv_0
              refine j_top ((st_9.trans (tick_S (by omega)))) ?_
              refine j_aload_n dL_marched_188 rfl rfl ?_
              refine j_bipush (v := 10) dL_marched_189 (by decide) ?_
              refine j_cVi (o_state hb2 10) q_X3_state tw_196 dL_marched_191 rfl rfl rfl (by omega) (Nat.le_of_ble_eq_true rfl) (by omega) (by omega) ?_ zv_0
              refine j_top ((st_10.trans (tick_S (by omega)))) ?_
              refine j_aload_n dL_marched_194 rfl rfl ?_
              refine j_iload dL_marched_195 rfl ?_
              refine j_iald (k0 := 3) dL_marched_197 rfl rfl (by omega) (by decide) ?_
              refine j_isub dL_marched_198 ?_
              refine j_imul dL_marched_199 ?_
              refine j_iconst (v := 2) dL_marched_200 (by decide) ?_
              refine j_iload dL_marched_201 rfl ?_
              refine j_imul dL_marched_203 ?_
              refine j_iconst (v := 1) dL_marched_204 (by decide) ?_
              refine j_iadd dL_marched_205 ?_
              refine j_imul dL_marched_206 ?_
              refine j_sipush (v := 1000) dL_marched_207 (by decide) ?_
              refine j_idiv dL_marched_210 (by decide) ?_
              refine j_iadd dL_marched_211 ?_
              refine j_top ((show dueF (aS b) (aP b) n r + aS b 3 * (aS b 4 - f1 r) * (2 * nI r + 1) / 1000 = dueF (aS b) (aP b) n (r + 1) by rw [dueF_s, fri, hf1 r hd, wt_eq])) ?_
              refine j_istore dL_marched_212 (by decide) rfl ?_
              refine j_iinc dL_marched_214 rfl (inc1 _) (by decide) rfl ?_
              refine j_goto (tgt := 174) dL_marched_217 (by decide) ?_
              exact ih (r + 1) (by omega) (by omega) hend
        refine l3 (n + 1) 0 (by omega) (by omega) ?_
        refine j_aload_n dL_marched_220 rfl rfl ?_
        refine j_iconst (v := 3) dL_marched_221 (by decide) ?_
        refine j_cVi (o_state hb2 3) q_X3_state tw_196 dL_marched_222 rfl rfl rfl (by omega) (Nat.le_of_ble_eq_true rfl) (by omega) (by omega) ?_ zv_0
        refine j_top ((sv_3 en2)) ?_
        refine j_iload dL_marched_225 rfl ?_
        refine j_iload dL_marched_227 rfl ?_
        refine j_iadd dL_marched_229 ?_
        refine j_icmp_eq (tgt := 235) dL_marched_230 (by decide) (fun _ => ?_) (fun h9 => absurd ((by have := tick_sum hF; rw [en] at this; exact this)) h9)
        refine j_iconst (v := 0) dL_marched_235 (by decide) ?_
        refine j_istore dL_marched_236 (by decide) rfl ?_
        have l4 : ∀ (f r : Nat), r ≤ n → n < r + f → Xj K 7 4 36 "DyeTankLaw" method_6_code 14 324 [zR (0, 0, 0), zI (nI N), zI (nI n), xR q1, xR q2, xR q3, xR q4, zI (nI i), zN, zN, zN, zN, zN, zN] [] μ2 ((q4, 6, f4) :: (q3, 6, f3) :: (q2, 12, f2) :: (q1, 12, f1) :: E) 4 36 → Xj K 7 4 36 "DyeTankLaw" method_6_code 14 238 [zR (0, 0, 0), zI (nI N), zI (nI n), xR q1, xR q2, xR q3, xR q4, zI (nI i), zN, zN, zN, zI (nI r), zN, zN] [] μ2 ((q4, 6, f4) :: (q3, 6, f3) :: (q2, 12, f2) :: (q1, 12, f1) :: E) 4 36 := by
          intro f
          induction f with
          | zero => intro r h1 h2 h3; exact absurd ‹_ < _ + 0› (by omega)
          | succ f ih =>
            intro r hr1 hr2 hend
            refine j_iload dL_marched_238 rfl ?_
            refine j_iload_n dL_marched_240 rfl rfl ?_
            refine j_icmp_ge (tgt := 324) dL_marched_241 (by decide) (fun hd => ?_) (fun hd => ?_)
            · have hd := nle hd
              refine j_less (ls' := [zR (0, 0, 0), zI (nI N), zI (nI n), xR q1, xR q2, xR q3, xR q4, zI (nI i), zN, zN, zN, zN, zN, zN]) (by repeat' constructor) ?_
              exact hend
            · have hd := nnle hd
              obtain ⟨q, hq, eq⟩ := vel_rem hF2 (r := r) (by omega)
              refine j_aload_n dL_marched_244 rfl rfl ?_
              refine j_iload dL_marched_245 rfl ?_
              refine j_iconst (v := 0) dL_marched_247 (by decide) ?_
              refine j_cVi (o_ring hb2 _ _) q_X3_ring tw_228 dL_marched_248 rfl rfl rfl (by omega) (Nat.le_of_ble_eq_true rfl) (by omega) (by omega) ?_ zv_0
              refine j_top ((rv_vel en2 hd hn12)) ?_
              refine j_istore dL_marched_251 (by decide) rfl ?_
              refine j_aload_n dL_marched_253 rfl rfl ?_
              refine j_iload dL_marched_254 rfl ?_
              refine j_iconst (v := 1) dL_marched_256 (by decide) ?_
              refine j_cVi (o_ring hb2 _ _) q_X3_ring tw_228 dL_marched_257 rfl rfl rfl (by omega) (Nat.le_of_ble_eq_true rfl) (by omega) (by omega) ?_ zv_0
              refine j_top ((rv_mom en2 hd hn12)) ?_
              refine j_iload dL_marched_260 rfl ?_
              refine j_iconst (v := 2) dL_marched_262 (by decide) ?_
              refine j_iload dL_marched_263 rfl ?_
              refine j_imul dL_marched_265 ?_
              refine j_iconst (v := 1) dL_marched_266 (by decide) ?_
              refine j_iadd dL_marched_267 ?_
              refine j_imul dL_marched_268 ?_
              refine j_isub dL_marched_269 ?_
              refine j_top ((show aP (tickF b) r - vel (aP (tickF b)) r * (2 * nI r + 1) = nI q by rw [wt_eq]; exact eq)) ?_
              refine j_istore dL_marched_270 (by decide) rfl ?_
              refine j_aload_n dL_marched_272 rfl rfl ?_
              refine j_iload dL_marched_273 rfl ?_
              refine j_iconst (v := 2) dL_marched_275 (by decide) ?_
              refine j_cVi (o_ring hb2 _ _) q_X3_ring tw_228 dL_marched_276 rfl rfl rfl (by omega) (Nat.le_of_ble_eq_true rfl) (by omega) (by omega) ?_ zv_0
              refine j_top (((rv_ang en2 hd hn12).trans (tick_ang hF (by omega)))) ?_
              refine j_aload dL_marched_279 rfl ?_
              refine j_iload dL_marched_281 rfl ?_
              refine j_iald (k0 := 2) dL_marched_283 rfl rfl (by omega) (by decide) ?_
              refine j_iload dL_marched_284 rfl ?_
              refine j_iadd dL_marched_286 ?_
              refine j_top ((show f2 r + vel (aP (tickF b)) r = aA b r + vel (aP (tickF b)) r by rw [hf2 r hd])) ?_
              refine j_sipush (v := 3600) dL_marched_287 (by decide) ?_
              refine j_irem dL_marched_290 (by decide) ?_
              refine j_sipush (v := 3600) dL_marched_291 (by decide) ?_
              refine j_iadd dL_marched_294 ?_
              refine j_sipush (v := 3600) dL_marched_295 (by decide) ?_
              refine j_irem dL_marched_298 (by decide) ?_
              refine j_top ((rem2 (aA b r + vel (aP (tickF b)) r) (m := 3600) (by omega) (by omega))) ?_
              refine j_icmp_ne (tgt := 316) dL_marched_299 (by decide) (fun h9 => absurd h9 (fun q => q rfl)) (fun _ => ?_)
              refine j_iload dL_marched_302 rfl ?_
              refine j_if_lt (tgt := 316) dL_marched_304 (by decide) (fun h9 => absurd h9 (fun q => absurd (Int32.lt_iff_toInt_lt.mp q) (by rw [nI_toInt (by omega), Int32.toInt_zero]; omega))) (fun _ => ?_)
              refine j_iload dL_marched_307 rfl ?_
              refine j_iconst (v := 2) dL_marched_309 (by decide) ?_
              refine j_iload dL_marched_310 rfl ?_
              refine j_imul dL_marched_312 ?_
              refine j_top ((pk_mul 2 r)) ?_
              refine j_icmp_le (tgt := 318) dL_marched_313 (by decide) (fun _ => ?_) (fun h9 => absurd ((nI_leI (by omega) (by omega)).mpr hq) h9)
              refine j_iinc dL_marched_318 rfl (inc1 _) (by decide) rfl ?_
              refine j_goto (tgt := 238) dL_marched_321 (by decide) ?_
              refine j_less (ls' := [zR (0, 0, 0), zI (nI N), zI (nI n), xR q1, xR q2, xR q3, xR q4, zI (nI i), zN, zN, zN, zI (nI (r + 1)), zN, zN]) (by repeat' constructor) ?_
              exact ih (r + 1) (by omega) (by omega) hend
        refine j_less (ls' := [zR (0, 0, 0), zI (nI N), zI (nI n), xR q1, xR q2, xR q3, xR q4, zI (nI i), zN, zN, zN, zI (nI 0), zN, zN]) (by repeat' constructor) ?_
        refine l4 (n + 1) 0 (by omega) (by omega) ?_
        refine j_iconst (v := 0) dL_marched_324 (by decide) ?_
        refine j_istore dL_marched_325 (by decide) rfl ?_
        have l5 : ∀ (f m : Nat), m ≤ rK b → rK b < m + f → Xj K 7 4 36 "DyeTankLaw" method_6_code 14 511 [zR (0, 0, 0), zI (nI N), zI (nI n), xR q1, xR q2, xR q3, xR q4, zI (nI i), zN, zN, zN, zN, zN, zN] [] μ2 ((q4, 6, f4) :: (q3, 6, f3) :: (q2, 12, f2) :: (q1, 12, f1) :: E) 4 36 → Xj K 7 4 36 "DyeTankLaw" method_6_code 14 327 [zR (0, 0, 0), zI (nI N), zI (nI n), xR q1, xR q2, xR q3, xR q4, zI (nI i), zN, zN, zN, zI (nI m), zN, zN] [] μ2 ((q4, 6, f4) :: (q3, 6, f3) :: (q2, 12, f2) :: (q1, 12, f1) :: E) 4 36 := by
          intro f
          induction f with
          | zero => intro m h1 h2 h3; exact absurd ‹_ < _ + 0› (by omega)
          | succ f ih =>
            intro m hm1 hm2 hend
            refine j_iload dL_marched_327 rfl ?_
            refine j_aload_n dL_marched_329 rfl rfl ?_
            refine j_iconst (v := 2) dL_marched_330 (by decide) ?_
            refine j_cVi (o_state hb2 2) q_X3_state tw_196 dL_marched_331 rfl rfl rfl (by omega) (Nat.le_of_ble_eq_true rfl) (by omega) (by omega) ?_ zv_0
            refine j_top ((st_2.trans (tick_33.trans hB.2.2.2.1))) ?_
            refine j_icmp_ge (tgt := 511) dL_marched_334 (by decide) (fun hd => ?_) (fun hd => ?_)
            · have hd := nle hd
              refine j_less (ls' := [zR (0, 0, 0), zI (nI N), zI (nI n), xR q1, xR q2, xR q3, xR q4, zI (nI i), zN, zN, zN, zN, zN, zN]) (by repeat' constructor) ?_
              exact hend
            · have hd := nnle hd
              obtain ⟨p, g, hp, hg, ep, eg⟩ := Full_M hF hd
              obtain ⟨p1, p2⟩ := tick_place hF hd hp ep
              have tg := tk_g hd hk6 eg
              obtain ⟨n1, n2⟩ := tk_new hd hk6 eg (by omega)
              rw [en] at hp p1
              have hpr : p / 1000 < n := by omega
              have hm6 : m < rK (tickF b) := by rw [ek2]; exact hd
              have hk62 : rK (tickF b) ≤ 6 := by rw [ek2]; exact hk6
              have hkp : kepN (g + 1) = (if g < 49 then g + 1 else 50) := by unfold kepN; split <;> split <;> omega
              refine j_aload dL_marched_337 rfl ?_
              refine j_iload dL_marched_339 rfl ?_
              refine j_iald (k0 := 1) dL_marched_341 rfl rfl (by omega) (by decide) ?_
              refine j_top (((hf3 m hd).trans ep)) ?_
              refine j_sipush (v := 1000) dL_marched_342 (by decide) ?_
              refine j_idiv dL_marched_345 (by decide) ?_
              refine j_top ((div_nI (i := p) (m := 1000) (by omega) (by omega) (by omega))) ?_
              refine j_istore dL_marched_346 (by decide) rfl ?_
              refine j_aload dL_marched_348 rfl ?_
              refine j_iload dL_marched_350 rfl ?_
              refine j_iald (k0 := 1) dL_marched_352 rfl rfl (by omega) (by decide) ?_
              refine j_top (((hf3 m hd).trans ep)) ?_
              refine j_aload_n dL_marched_353 rfl rfl ?_
              refine j_iload dL_marched_354 rfl ?_
              refine j_iconst (v := 3) dL_marched_356 (by decide) ?_
              refine j_cVi (o_ring hb2 _ _) q_X3_ring tw_228 dL_marched_357 rfl rfl rfl (by omega) (Nat.le_of_ble_eq_true rfl) (by omega) (by omega) ?_ zv_0
              refine j_top ((rv_psh en2 hpr hn12)) ?_
              refine j_iadd dL_marched_360 ?_
              have g0 := pa_at (a := tickF b) (b := 0) (w := 0) hm6 hk62 tg (by omega) (by rw [hkp]; split <;> omega) (by omega)
              rw [show g + 1 - 1 - 0 = g by omega, Nat.add_zero, n1, ← tk_pl hd, p1] at g0
              have g1 := pa_at (a := tickF b) (b := 0) (w := 1) hm6 hk62 tg (by omega) (by rw [hkp]; split <;> omega) (by omega)
              rw [show g + 1 - 1 - 0 = g by omega, n2, ← tk_an hd, p2] at g1
              generalize eto : nI p + psh (aS (tickF b)) (aP (tickF b)) (p / 1000) = to at p1 g0
              have join : Xj K 7 4 36 "DyeTankLaw" method_6_code 14 396 [zR (0, 0, 0), zI (nI N), zI (nI n), xR q1, xR q2, xR q3, xR q4, zI (nI i), zN, zN, zN, zI (nI m), zI (nI (p / 1000)), zI to] [zI (clL (nI n) to)] μ2 ((q4, 6, f4) :: (q3, 6, f3) :: (q2, 12, f2) :: (q1, 12, f1) :: E) 4 36 := by
                refine j_istore dL_marched_396 (by decide) rfl ?_
                refine j_aload_n dL_marched_398 rfl rfl ?_
                refine j_iload dL_marched_399 rfl ?_
                refine j_iconst (v := 0) dL_marched_401 (by decide) ?_
                refine j_cVi (o_where hb2 _ _) q_X3_where tw_256 dL_marched_402 rfl rfl rfl (by omega) (Nat.le_of_ble_eq_true rfl) (by omega) (by omega) ?_ zv_0
                refine j_top (((wh_0 hm6 hk62).trans p1)) ?_
                refine j_iload dL_marched_405 rfl ?_
                refine j_icmp_ne (tgt := 503) dL_marched_407 (by decide) (fun h9 => absurd h9 (fun q => q rfl)) (fun _ => ?_)
                refine j_aload_n dL_marched_410 rfl rfl ?_
                refine j_iload dL_marched_411 rfl ?_
                refine j_iconst (v := 1) dL_marched_413 (by decide) ?_
                refine j_cVi (o_where hb2 _ _) q_X3_where tw_256 dL_marched_414 rfl rfl rfl (by omega) (Nat.le_of_ble_eq_true rfl) (by omega) (by omega) ?_ zv_0
                refine j_top (((wh_1 hm6 hk62).trans p2)) ?_
                refine j_aload dL_marched_417 rfl ?_
                refine j_iload dL_marched_419 rfl ?_
                refine j_iald (k0 := 0) dL_marched_421 rfl rfl (by omega) (by decide) ?_
                refine j_top ((hf4 m hd)) ?_
                refine j_aload_n dL_marched_422 rfl rfl ?_
                refine j_iload dL_marched_423 rfl ?_
                refine j_iconst (v := 0) dL_marched_425 (by decide) ?_
                refine j_cVi (o_ring hb2 _ _) q_X3_ring tw_228 dL_marched_426 rfl rfl rfl (by omega) (Nat.le_of_ble_eq_true rfl) (by omega) (by omega) ?_ zv_0
                refine j_top ((rv_vel en2 hpr hn12)) ?_
                refine j_iadd dL_marched_429 ?_
                refine j_sipush (v := 3600) dL_marched_430 (by decide) ?_
                refine j_irem dL_marched_433 (by decide) ?_
                refine j_sipush (v := 3600) dL_marched_434 (by decide) ?_
                refine j_iadd dL_marched_437 ?_
                refine j_sipush (v := 3600) dL_marched_438 (by decide) ?_
                refine j_irem dL_marched_441 (by decide) ?_
                refine j_top ((rem2 (b (34 + 104 * m + 1) + vel (aP (tickF b)) (p / 1000)) (m := 3600) (by omega) (by omega))) ?_
                refine j_icmp_ne (tgt := 503) dL_marched_442 (by decide) (fun h9 => absurd h9 (fun q => q rfl)) (fun _ => ?_)
                refine j_aload_n dL_marched_445 rfl rfl ?_
                refine j_iload dL_marched_446 rfl ?_
                refine j_iconst (v := 0) dL_marched_448 (by decide) ?_
                refine j_iconst (v := 0) dL_marched_449 (by decide) ?_
                refine j_cVi (o_path hb2 _ _ _) q_X3_path tw_325 dL_marched_450 rfl rfl rfl (by omega) (Nat.le_of_ble_eq_true rfl) (by omega) (by omega) ?_ zv_0
                refine j_top (g0) ?_
                refine j_iload dL_marched_453 rfl ?_
                refine j_icmp_ne (tgt := 503) dL_marched_455 (by decide) (fun h9 => absurd h9 (fun q => q rfl)) (fun _ => ?_)
                refine j_aload_n dL_marched_458 rfl rfl ?_
                refine j_iload dL_marched_459 rfl ?_
                refine j_iconst (v := 0) dL_marched_461 (by decide) ?_
                refine j_iconst (v := 1) dL_marched_462 (by decide) ?_
                refine j_cVi (o_path hb2 _ _ _) q_X3_path tw_325 dL_marched_463 rfl rfl rfl (by omega) (Nat.le_of_ble_eq_true rfl) (by omega) (by omega) ?_ zv_0
                refine j_top (g1) ?_
                refine j_aload_n dL_marched_466 rfl rfl ?_
                refine j_iload dL_marched_467 rfl ?_
                refine j_iconst (v := 1) dL_marched_469 (by decide) ?_
                refine j_cVi (o_where hb2 _ _) q_X3_where tw_256 dL_marched_470 rfl rfl rfl (by omega) (Nat.le_of_ble_eq_true rfl) (by omega) (by omega) ?_ zv_0
                refine j_top (((wh_1 hm6 hk62).trans p2)) ?_
                refine j_icmp_ne (tgt := 503) dL_marched_473 (by decide) (fun h9 => absurd h9 (fun q => q rfl)) (fun _ => ?_)
                refine j_aload_n dL_marched_476 rfl rfl ?_
                refine j_iload dL_marched_477 rfl ?_
                refine j_iconst (v := 3) dL_marched_479 (by decide) ?_
                refine j_cVi (o_where hb2 _ _) q_X3_where tw_256 dL_marched_480 rfl rfl rfl (by omega) (Nat.le_of_ble_eq_true rfl) (by omega) (by omega) ?_ zv_0
                refine j_top ((wh_3 hm6 hk62 tg (by omega))) ?_
                refine j_iconst (v := 1) dL_marched_483 (by decide) ?_
                have back : Xj K 7 4 36 "DyeTankLaw" method_6_code 14 505 [zR (0, 0, 0), zI (nI N), zI (nI n), xR q1, xR q2, xR q3, xR q4, zI (nI i), zN, zN, zN, zI (nI m), zI (nI (p / 1000)), zI (clL (nI n) to)] [] μ2 ((q4, 6, f4) :: (q3, 6, f3) :: (q2, 12, f2) :: (q1, 12, f1) :: E) 4 36 := by
                  refine j_iinc dL_marched_505 rfl (inc1 _) (by decide) rfl ?_
                  refine j_goto (tgt := 327) dL_marched_508 (by decide) ?_
                  refine j_less (ls' := [zR (0, 0, 0), zI (nI N), zI (nI n), xR q1, xR q2, xR q3, xR q4, zI (nI i), zN, zN, zN, zI (nI (m + 1)), zN, zN]) (by repeat' constructor) ?_
                  exact ih (m + 1) (by omega) (by omega) hend
                refine j_icmp_le (tgt := 505) dL_marched_484 (by decide) (fun hz => ?_) (fun hz => ?_)
                · exact back
                · have hz : 1 < kepN (g + 1) := nnle (b := 1) hz (by rw [hkp]; split <;> omega)
                  have hg1 : 1 ≤ g := by rw [hkp] at hz; split at hz <;> omega
                  have g2 := pa_at (a := tickF b) (b := 1) (w := 0) hm6 hk62 tg (by omega) hz (by omega)
                  rw [show g + 1 - 1 - 1 = g - 1 by omega, Nat.add_zero, tk_old hd hk6 eg (by omega) (Nat.mod_lt _ (by omega)) (by omega), hwb.2 m hd g (by omega) hg1 eg] at g2
                  refine j_aload_n dL_marched_487 rfl rfl ?_
                  refine j_iload dL_marched_488 rfl ?_
                  refine j_iconst (v := 1) dL_marched_490 (by decide) ?_
                  refine j_iconst (v := 0) dL_marched_491 (by decide) ?_
                  refine j_cVi (o_path hb2 _ _ _) q_X3_path tw_325 dL_marched_492 rfl rfl rfl (by omega) (Nat.le_of_ble_eq_true rfl) (by omega) (by omega) ?_ zv_0
                  refine j_top (g2) ?_
                  refine j_aload dL_marched_495 rfl ?_
                  refine j_iload dL_marched_497 rfl ?_
                  refine j_iald (k0 := 1) dL_marched_499 rfl rfl (by omega) (by decide) ?_
                  refine j_icmp_eq (tgt := 505) dL_marched_500 (by decide) (fun _ => ?_) (fun h9 => absurd ((hf3 m hd).symm) h9)
                  exact back
              refine j_istore dL_marched_361 (by decide) rfl ?_
              refine j_iload dL_marched_363 rfl ?_
              refine j_if_ge (tgt := 372) dL_marched_365 (by decide) (fun hz => ?_) (fun hz => ?_)
              · refine j_iload dL_marched_372 rfl ?_
                refine j_sipush (v := 1000) dL_marched_374 (by decide) ?_
                refine j_iload_n dL_marched_377 rfl rfl ?_
                refine j_imul dL_marched_378 ?_
                refine j_iconst (v := 1) dL_marched_379 (by decide) ?_
                refine j_isub dL_marched_380 ?_
                refine j_icmp_le (tgt := 394) dL_marched_381 (by decide) (fun hy => ?_) (fun hy => ?_)
                · refine j_iload dL_marched_394 rfl ?_
                  refine j_top ((show to = clL (nI n) to by rw [clL, if_neg (by rw [Int32.lt_iff_toInt_lt]; rw [Int32.le_iff_toInt_le] at hz; omega), if_neg (by rw [Int32.lt_iff_toInt_lt]; rw [Int32.le_iff_toInt_le] at hy; omega)])) ?_
                  exact join
                · refine j_sipush (v := 1000) dL_marched_384 (by decide) ?_
                  refine j_iload_n dL_marched_387 rfl rfl ?_
                  refine j_imul dL_marched_388 ?_
                  refine j_iconst (v := 1) dL_marched_389 (by decide) ?_
                  refine j_isub dL_marched_390 ?_
                  refine j_goto (tgt := 396) dL_marched_391 (by decide) ?_
                  refine j_top ((show 1000 * nI n - 1 = clL (nI n) to by rw [clL, if_neg (by rw [Int32.lt_iff_toInt_lt]; rw [Int32.le_iff_toInt_le] at hz; omega), if_pos (by rw [Int32.lt_iff_toInt_lt]; rw [Int32.le_iff_toInt_le] at hy; omega)])) ?_
                  exact join
              · refine j_iconst (v := 0) dL_marched_368 (by decide) ?_
                refine j_goto (tgt := 396) dL_marched_369 (by decide) ?_
                refine j_top ((show (0 : Int32) = clL (nI n) to by rw [clL, if_pos (by rw [Int32.lt_iff_toInt_lt]; rw [Int32.le_iff_toInt_le] at hz; omega)])) ?_
                exact join
        refine j_less (ls' := [zR (0, 0, 0), zI (nI N), zI (nI n), xR q1, xR q2, xR q3, xR q4, zI (nI i), zN, zN, zN, zI (nI 0), zN, zN]) (by repeat' constructor) ?_
        refine l5 (rK b + 1) 0 (by omega) (by omega) ?_
        refine j_iinc dL_marched_511 rfl (inc1 _) (by decide) rfl ?_
        refine j_goto (tgt := 32) dL_marched_514 (by decide) ?_
        exact ih2 μ2 _ _ _ _ (by omega) (by omega) hb2
  exact outer (N + 1) 0 μ _ _ _ _ (by omega) (by omega) h
