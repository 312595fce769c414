/-- a marker of the reference has made a step -/
def plN (a : Nat → Int32) (w : Nat) : Int32 := mvp (1000 * a 0 - 1) (a w) (psh (aS a) (aP a) (rgo (a w)))
def anN (a : Nat → Int32) (w : Nat) : Int32 := fmd (a (w + 1) + vel (aP a) (rgo (a w))) 3600
def MN (a a' : Nat → Int32) (w : Nat) : Prop := a' w = plN a w ∧ a' (w + 1) = anN a w ∧ a' (w + 2) = a (w + 2) + 1 ∧ a' (w + 3) = (if plN a w / 1000 = a w / 1000 then a (w + 3) else a (w + 3) + 1) ∧ a' (w + 4 + 2 * ((a (w + 2)).toNatClampNeg % 50)) = plN a w ∧ a' (w + 5 + 2 * ((a (w + 2)).toNatClampNeg % 50)) = anN a w ∧ (∀ j, j < 50 → j ≠ (a (w + 2)).toNatClampNeg % 50 → a' (w + 4 + 2 * j) = a (w + 4 + 2 * j) ∧ a' (w + 5 + 2 * j) = a (w + 5 + 2 * j)) ∧ ∀ k, (k < w ∨ w + 104 ≤ k) → a' k = a k
theorem mvp_pl {last p x : Int32} (hl : 0 < last) : (if 0 ≤ p + x then (if p + x ≤ last then p + x else last) else 0) = mvp last p x := by
  unfold mvp
  by_cases h1 : 0 ≤ p + x
  · rw [if_pos h1]
    by_cases h2 : p + x < last
    · rw [if_pos h2, if_pos (Int32.le_of_lt h2)]
      by_cases h3 : 0 < p + x
      · rw [if_pos h3]
      · rw [if_neg h3]
        exact Int32.le_antisymm (Int32.not_lt.mp h3) h1
    · rw [if_neg h2, if_pos hl]
      by_cases h3 : p + x ≤ last
      · rw [if_pos h3]
        exact Int32.le_antisymm h3 (Int32.not_lt.mp h2)
      · rw [if_neg h3]
  · rw [if_neg h1]
    have h2 : p + x < last := Int32.lt_trans (Int32.not_le.mp h1) hl
    rw [if_pos h2, if_neg (fun q => h1 (Int32.le_of_lt q))]
theorem m_stepMarker (μ : zM) (n m p g : Nat) (hm : m < 6) (hn : μ (21, 0, 0) 0 = nI n) (hn2 : 2 ≤ n) (hn12 : n ≤ 12) (hp : p < 1000 * n) (ep : μ (21, 0, 0) (34 + 104 * m) = nI p) (hg : g < 2 ^ 29) (eg : μ (21, 0, 0) (34 + 104 * m + 2) = nI g) : zCv yX4_stepMarker prog_6_method_28_code 6 (none : Option Jvm.ClassFile.FieldType) 4 [zR (20, 0, 0), zI (nI m)] μ (fun μ' => zoff [(21, 0, 0)] μ μ' ∧ MN (μ (21, 0, 0)) (μ' (21, 0, 0)) (34 + 104 * m)) := by
  refine zCt.of "DyeTankModel" rfl (by decide +kernel) rfl (Nat.le_of_ble_eq_true rfl) (fun K hR => ?_)
  have v20 := zv_20
  have v21 := zv_21
  have v22 := zv_22
  have v23 := zv_23
  have v24 := zv_24
  have v25 := zv_25
  have v26 := zv_26
  have v27 := zv_27
  have v28 := zv_28
  generalize hw : 34 + 104 * m = w at ep eg ⊢
  have hw1 : w + 104 ≤ 658 := by omega
  generalize ha : μ (21, 0, 0) = a at ep eg hn ⊢
  have hrg : rgo (a w) = p / 1000 := by
    unfold rgo
    rw [ep, nI_clamp (by omega)]
  have hring : p / 1000 < n := by omega
  have hlast : 1000 * a 0 - 1 = nI (1000 * n - 1) := by
    rw [hn, show (1000 : Int32) * nI n = nI (1000 * n) from pk_mul 1000 n]
    exact pk_sub (b := 1) (by omega)
  have hlp : 0 < 1000 * a 0 - 1 := by rw [hlast]; exact nI_lt (a := 0) (by omega) (by omega)
  have epl : mvp (1000 * a 0 - 1) (nI p) (psh (aS a) (aP a) (p / 1000)) = plN a w := by unfold plN; rw [hrg, ep]
  have hg50 : g % 50 < 50 := Nat.mod_lt _ (by omega)
  have eg2 : (a (w + 2)).toNatClampNeg = g := by rw [eg, nI_clamp (by omega)]
  have final : ∀ (G : Nat → Int32) (x5 : zV), G w = plN a w → G (w + 1) = anN a w → G (w + 2) = nI g → G (w + 3) = (if plN a w / 1000 = a w / 1000 then a (w + 3) else a (w + 3) + 1) → (∀ k, (k < w ∨ w + 4 ≤ k) → G k = a k) → Z K 4 "DyeTankModel" prog_6_method_28_code 6 146 [zR (20, 0, 0), zI (nI m), zI (nI w), zI (nI (p / 1000)), zI (plN a w), x5] [] (st μ (21, 0, 0) G) := by
    intro G x5 g0 g1 g2 g3 gk
    refine z_iload_n dX4_stepMarker_146 rfl rfl ?_
    refine z_iconst (v := 4) dX4_stepMarker_147 (by decide) ?_
    refine z_iadd dX4_stepMarker_148 ?_
    refine z_top ((nI_add w 4)) ?_
    refine z_iconst (v := 2) dX4_stepMarker_149 (by decide) ?_
    refine z_aload_n dX4_stepMarker_150 rfl rfl ?_
    refine zg_X4_at dX4_stepMarker_151 tw_552 ?_
    refine z_iload_n dX4_stepMarker_154 rfl rfl ?_
    refine z_iconst (v := 2) dX4_stepMarker_155 (by decide) ?_
    refine z_iadd dX4_stepMarker_156 ?_
    refine z_iald dX4_stepMarker_157 (fun _ _ => rfl) (nI_add w 2) (show w + 2 < 2386 by omega) ?_
    refine z_bipush (v := 50) dX4_stepMarker_158 (by decide) ?_
    refine z_irem dX4_stepMarker_160 (by decide) ?_
    refine z_top ((show _ = nI (g % 50) by rw [st_eq, g2]; exact pk_rem (d := 50) (by omega) (by omega) (by omega))) ?_
    refine z_imul dX4_stepMarker_161 ?_
    refine z_iadd dX4_stepMarker_162 ?_
    refine z_top ((show nI (w + 4) + nI 2 * nI (g % 50) = nI (w + 4 + 2 * (g % 50)) by rw [pk_mul, nI_add])) ?_
    refine z_istS dX4_stepMarker_163 (by decide) rfl ?_
    refine z_aload_n dX4_stepMarker_165 rfl rfl ?_
    refine zg_X4_at dX4_stepMarker_166 tw_552 ?_
    refine z_iload dX4_stepMarker_169 rfl ?_
    refine z_iload dX4_stepMarker_171 rfl ?_
    refine z_iast dX4_stepMarker_173 (fun _ _ => rfl) rfl (show w + 4 + 2 * (g % 50) < 2386 by omega) ?_
    refine z_mu (st_upd _ _ _ _ _) ?_
    refine z_aload_n dX4_stepMarker_174 rfl rfl ?_
    refine zg_X4_at dX4_stepMarker_175 tw_552 ?_
    refine z_iload dX4_stepMarker_178 rfl ?_
    refine z_iconst (v := 1) dX4_stepMarker_180 (by decide) ?_
    refine z_iadd dX4_stepMarker_181 ?_
    refine z_top ((nI_add _ 1)) ?_
    refine z_aload_n dX4_stepMarker_182 rfl rfl ?_
    refine zg_X4_at dX4_stepMarker_183 tw_552 ?_
    refine z_iload_n dX4_stepMarker_186 rfl rfl ?_
    refine z_iconst (v := 1) dX4_stepMarker_187 (by decide) ?_
    refine z_iadd dX4_stepMarker_188 ?_
    refine z_iald dX4_stepMarker_189 (fun _ _ => rfl) (nI_add w 1) (show w + 1 < 2386 by omega) ?_
    refine z_top ((show _ = anN a w by rw [st_eq]; unfold upd; rw [if_neg (by omega), g1])) ?_
    refine z_iast dX4_stepMarker_190 (fun _ _ => rfl) rfl (show w + 4 + 2 * (g % 50) + 1 < 2386 by omega) ?_
    refine z_mu (st_upd _ _ _ _ _) ?_
    refine z_aload_n dX4_stepMarker_191 rfl rfl ?_
    refine zg_X4_at dX4_stepMarker_192 tw_552 ?_
    refine z_iload_n dX4_stepMarker_195 rfl rfl ?_
    refine z_iconst (v := 2) dX4_stepMarker_196 (by decide) ?_
    refine z_iadd dX4_stepMarker_197 ?_
    refine z_top ((nI_add w 2)) ?_
    refine z_dup2 dX4_stepMarker_198 rfl rfl ?_
    refine z_iald dX4_stepMarker_199 (fun _ _ => rfl) rfl (show w + 2 < 2386 by omega) ?_
    refine z_iconst (v := 1) dX4_stepMarker_200 (by decide) ?_
    refine z_iadd dX4_stepMarker_201 ?_
    refine z_iast dX4_stepMarker_202 (fun _ _ => rfl) rfl (show w + 2 < 2386 by omega) ?_
    refine z_mu (st_upd _ _ _ _ _) ?_
    refine z_vret hR dX4_stepMarker_203 (⟨rfl, zoff.rf.put (by simp) _, ?_⟩)
    rw [st_eq, st_eq, hw, ha]
    unfold MN
    rw [eg2]
    refine ⟨?_, ?_, ?_, ?_, ?_, ?_, ?_, ?_⟩
    · unfold upd; rw [if_neg (by omega), if_neg (by omega), if_neg (by omega), g0]
    · unfold upd; rw [if_neg (by omega), if_neg (by omega), if_neg (by omega), g1]
    · unfold upd; rw [if_pos rfl, if_neg (by omega), if_neg (by omega), g2, eg]
    · unfold upd; rw [if_neg (by omega), if_neg (by omega), if_neg (by omega), g3]
    · unfold upd; rw [if_neg (by omega), if_neg (by omega), if_pos rfl]
    · unfold upd; rw [if_neg (by omega), if_pos (by omega)]
    · intro j hj hne
      unfold upd
      rw [if_neg (by omega), if_neg (by omega), if_neg (by omega), if_neg (by omega), if_neg (by omega), if_neg (by omega)]
      exact ⟨gk _ (by omega), gk _ (by omega)⟩
    · intro k hk
      unfold upd
      rw [if_neg (by omega), if_neg (by omega), if_neg (by omega)]
      exact gk k (by omega)
  have mid : ∀ (x5 : zV) (v : Int32), v = plN a w → Z K 4 "DyeTankModel" prog_6_method_28_code 6 80 [zR (20, 0, 0), zI (nI m), zI (nI w), zI (nI (p / 1000)), zI (nI p + psh (aS a) (aP a) (p / 1000)), x5] [zI v] μ := by
    intro x5 v hv
    subst hv
    refine z_istS dX4_stepMarker_80 (by decide) rfl ?_
    refine z_aload_n dX4_stepMarker_82 rfl rfl ?_
    refine zg_X4_at dX4_stepMarker_83 tw_552 ?_
    refine z_iload_n dX4_stepMarker_86 rfl rfl ?_
    refine z_iconst (v := 1) dX4_stepMarker_87 (by decide) ?_
    refine z_iadd dX4_stepMarker_88 ?_
    refine z_top ((nI_add w 1)) ?_
    refine z_aload_n dX4_stepMarker_89 rfl rfl ?_
    refine zg_X4_at dX4_stepMarker_90 tw_552 ?_
    refine z_iload_n dX4_stepMarker_93 rfl rfl ?_
    refine z_iconst (v := 1) dX4_stepMarker_94 (by decide) ?_
    refine z_iadd dX4_stepMarker_95 ?_
    refine z_iald dX4_stepMarker_96 (fun _ _ => rfl) (nI_add w 1) (show w + 1 < 2386 by omega) ?_
    refine z_aload_n dX4_stepMarker_97 rfl rfl ?_
    refine z_iload_n dX4_stepMarker_98 rfl rfl ?_
    refine z_cVi (m_velocity _ (p / 1000) (by omega)) q_X4_velocity tw_616 dX4_stepMarker_99 rfl rfl rfl (by omega) (Nat.le_of_ble_eq_true rfl) ?_
    refine z_iadd dX4_stepMarker_102 ?_
    refine z_top ((show _ = a (w + 1) + vel (aP a) (p / 1000) by rw [ha])) ?_
    refine z_sipush (v := 3600) dX4_stepMarker_103 (by decide) ?_
    refine z_cSi (c_mod _ _ _ (by decide)) q_X4_mod tw_656 dX4_stepMarker_106 rfl rfl (by omega) (Nat.le_of_ble_eq_true rfl) ?_
    refine z_top ((show _ = anN a w by rw [← fmd_mod (by decide), anN, hrg])) ?_
    refine z_iast dX4_stepMarker_109 (fun _ _ => rfl) rfl (show w + 1 < 2386 by omega) ?_
    refine z_aload_n dX4_stepMarker_110 rfl rfl ?_
    refine zg_X4_at dX4_stepMarker_111 tw_552 ?_
    refine z_iload_n dX4_stepMarker_114 rfl rfl ?_
    refine z_iconst (v := 0) dX4_stepMarker_115 (by decide) ?_
    refine z_iadd dX4_stepMarker_116 ?_
    refine z_top ((nI_add w 0)) ?_
    refine z_iload dX4_stepMarker_117 rfl ?_
    refine z_iast dX4_stepMarker_119 (fun _ _ => rfl) rfl (show w + 0 < 2386 by omega) ?_
    refine z_mu (st_upd _ _ _ _ _) ?_
    refine z_aload_n dX4_stepMarker_120 rfl rfl ?_
    refine zg_X4_at dX4_stepMarker_121 tw_552 ?_
    refine z_iload_n dX4_stepMarker_124 rfl rfl ?_
    refine z_iconst (v := 3) dX4_stepMarker_125 (by decide) ?_
    refine z_iadd dX4_stepMarker_126 ?_
    refine z_top ((nI_add w 3)) ?_
    refine z_dup2 dX4_stepMarker_127 rfl rfl ?_
    refine z_iald dX4_stepMarker_128 (fun _ _ => rfl) rfl (show w + 3 < 2386 by omega) ?_
    refine z_iload dX4_stepMarker_129 rfl ?_
    refine z_sipush (v := 1000) dX4_stepMarker_131 (by decide) ?_
    refine z_idiv dX4_stepMarker_134 (by decide) ?_
    refine z_iload_n dX4_stepMarker_135 rfl rfl ?_
    have cont : ∀ (d3 : Int32), a (w + 3) + d3 = (if plN a w / 1000 = a w / 1000 then a (w + 3) else a (w + 3) + 1) → Z K 4 "DyeTankModel" prog_6_method_28_code 6 144 [zR (20, 0, 0), zI (nI m), zI (nI w), zI (nI (p / 1000)), zI (plN a w), x5] [zI d3, zI (st μ (21, 0, 0) (upd (upd (μ (21, 0, 0)) (w + 1) (anN a w)) (w + 0) (plN a w)) (21, 0, 0) (w + 3)), zI (nI (w + 3)), zR (21, 0, 0)] (st μ (21, 0, 0) (upd (upd (μ (21, 0, 0)) (w + 1) (anN a w)) (w + 0) (plN a w))) := by
      intro d3 hd
      refine z_iadd dX4_stepMarker_144 ?_
      refine z_top ((show _ = (if plN a w / 1000 = a w / 1000 then a (w + 3) else a (w + 3) + 1) by rw [st_eq]; unfold upd; rw [if_neg (by omega), if_neg (by omega), ha]; exact hd)) ?_
      refine z_iast dX4_stepMarker_145 (fun _ _ => rfl) rfl (show w + 3 < 2386 by omega) ?_
      refine z_mu (st_upd _ _ _ _ _) ?_
      refine final _ x5 ?_ ?_ ?_ ?_ ?_
      · unfold upd; rw [if_neg (by omega), if_pos (by omega)]
      · unfold upd; rw [if_neg (by omega), if_neg (by omega), if_pos rfl]
      · unfold upd; rw [if_neg (by omega), if_neg (by omega), if_neg (by omega), ha, eg]
      · unfold upd; rw [if_pos rfl]
      · intro k hk
        unfold upd
        rw [if_neg (by omega), if_neg (by omega), if_neg (by omega), ha]
    have hdv : a w / 1000 = nI (p / 1000) := by rw [ep]; exact pk_div (d := 1000) (by omega) (by omega) (by omega)
    refine z_icmp_eq (tgt := 143) dX4_stepMarker_136 (by decide) (fun hc => ?_) (fun hc => ?_)
    · refine z_iconst (v := 0) dX4_stepMarker_143 (by decide) ?_
      exact cont 0 (by rw [Int32.add_zero, hdv, if_pos hc])
    · refine z_iconst (v := 1) dX4_stepMarker_139 (by decide) ?_
      refine z_goto (tgt := 144) dX4_stepMarker_140 (by decide) ?_
      exact cont 1 (by rw [hdv, if_neg hc])
  refine z_ls (ls' := [zR (20, 0, 0), zI (nI m), zN, zN, zN, zN]) rfl ?_
  refine z_bipush (v := 34) dX4_stepMarker_0 (by decide) ?_
  refine z_bipush (v := 104) dX4_stepMarker_2 (by decide) ?_
  refine z_iload_n dX4_stepMarker_4 rfl rfl ?_
  refine z_imul dX4_stepMarker_5 ?_
  refine z_iadd dX4_stepMarker_6 ?_
  refine z_top ((show nI 34 + nI 104 * nI m = nI w by rw [pk_mul, nI_add, hw])) ?_
  refine z_istS_n dX4_stepMarker_7 rfl (by decide) rfl ?_
  refine z_aload_n dX4_stepMarker_8 rfl rfl ?_
  refine zg_X4_at dX4_stepMarker_9 tw_552 ?_
  refine z_iload_n dX4_stepMarker_12 rfl rfl ?_
  refine z_iconst (v := 0) dX4_stepMarker_13 (by decide) ?_
  refine z_iadd dX4_stepMarker_14 ?_
  refine z_iald dX4_stepMarker_15 (fun _ _ => rfl) (nI_add w 0) (show w + 0 < 2386 by omega) ?_
  refine z_sipush (v := 1000) dX4_stepMarker_16 (by decide) ?_
  refine z_idiv dX4_stepMarker_19 (by decide) ?_
  refine z_top ((show _ = nI (p / 1000) by show μ (21, 0, 0) w / 1000 = _; rw [ha, ep]; exact pk_div (d := 1000) (by omega) (by omega) (by omega))) ?_
  refine z_istS_n dX4_stepMarker_20 rfl (by decide) rfl ?_
  refine z_aload_n dX4_stepMarker_21 rfl rfl ?_
  refine zg_X4_at dX4_stepMarker_22 tw_552 ?_
  refine z_iload_n dX4_stepMarker_25 rfl rfl ?_
  refine z_iconst (v := 0) dX4_stepMarker_26 (by decide) ?_
  refine z_iadd dX4_stepMarker_27 ?_
  refine z_iald dX4_stepMarker_28 (fun _ _ => rfl) (nI_add w 0) (show w + 0 < 2386 by omega) ?_
  refine z_aload_n dX4_stepMarker_29 rfl rfl ?_
  refine z_iload_n dX4_stepMarker_30 rfl rfl ?_
  refine z_cVi (m_push _ (p / 1000) (by omega)) q_X4_push tw_676 dX4_stepMarker_31 rfl rfl rfl (by omega) (Nat.le_of_ble_eq_true rfl) ?_
  refine z_iadd dX4_stepMarker_34 ?_
  refine z_top ((show _ = nI p + psh (aS a) (aP a) (p / 1000) by show μ (21, 0, 0) w + _ = _; rw [ha, ep])) ?_
  refine z_istS dX4_stepMarker_35 (by decide) rfl ?_
  refine z_iload dX4_stepMarker_37 rfl ?_
  refine z_if_ge (tgt := 46) dX4_stepMarker_39 (by decide) (fun h0 => ?_) (fun h0 => ?_)
  · refine z_iload dX4_stepMarker_46 rfl ?_
    refine z_sipush (v := 1000) dX4_stepMarker_48 (by decide) ?_
    refine z_aload_n dX4_stepMarker_51 rfl rfl ?_
    refine zg_X4_at dX4_stepMarker_52 tw_552 ?_
    refine z_iconst (v := 0) dX4_stepMarker_55 (by decide) ?_
    refine z_iald dX4_stepMarker_56 (fun _ _ => rfl) rfl (i := 0) (by decide) ?_
    refine z_imul dX4_stepMarker_57 ?_
    refine z_iconst (v := 1) dX4_stepMarker_58 (by decide) ?_
    refine z_isub dX4_stepMarker_59 ?_
    refine z_top ((show _ = 1000 * a 0 - 1 by rw [ha])) ?_
    refine z_icmp_le (tgt := 78) dX4_stepMarker_60 (by decide) (fun h1 => ?_) (fun h1 => ?_)
    · refine z_iload dX4_stepMarker_78 rfl ?_
      refine mid zN _ ?_
      rw [← epl, ← mvp_pl hlp, if_pos h0, if_pos h1]
    · refine z_sipush (v := 1000) dX4_stepMarker_63 (by decide) ?_
      refine z_aload_n dX4_stepMarker_66 rfl rfl ?_
      refine zg_X4_at dX4_stepMarker_67 tw_552 ?_
      refine z_iconst (v := 0) dX4_stepMarker_70 (by decide) ?_
      refine z_iald dX4_stepMarker_71 (fun _ _ => rfl) rfl (i := 0) (by decide) ?_
      refine z_imul dX4_stepMarker_72 ?_
      refine z_iconst (v := 1) dX4_stepMarker_73 (by decide) ?_
      refine z_isub dX4_stepMarker_74 ?_
      refine z_top ((show _ = 1000 * a 0 - 1 by rw [ha])) ?_
      refine z_goto (tgt := 80) dX4_stepMarker_75 (by decide) ?_
      refine mid zN _ ?_
      rw [← epl, ← mvp_pl hlp, if_pos h0, if_neg h1]
  · refine z_iconst (v := 0) dX4_stepMarker_42 (by decide) ?_
    refine z_goto (tgt := 80) dX4_stepMarker_43 (by decide) ?_
    refine mid zN _ ?_
    rw [← epl, ← mvp_pl hlp, if_neg h0]
theorem m_putAside (μ : zM) : zCv yX4_putAside prog_6_method_6_code 2 (none : Option Jvm.ClassFile.FieldType) 1 [zR (20, 0, 0)] μ (fun μ' => μ' = st μ (22, 0, 0) (fun j => if j < 2386 then μ (21, 0, 0) j else μ (22, 0, 0) j)) := by
  refine zCt.of "DyeTankModel" rfl (by decide +kernel) rfl (Nat.le_of_ble_eq_true rfl) (fun K hR => ?_)
  have v20 := zv_20
  have v21 := zv_21
  have v22 := zv_22
  have v23 := zv_23
  have v24 := zv_24
  have v25 := zv_25
  have v26 := zv_26
  have v27 := zv_27
  have v28 := zv_28
  have loop : ∀ (f i : Nat), i ≤ 2386 → 2386 < i + f → Z K 1 "DyeTankModel" prog_6_method_6_code 2 2 [zR (20, 0, 0), zI (nI i)] [] (st μ (22, 0, 0) (fun j => if j < i then μ (21, 0, 0) j else μ (22, 0, 0) j)) := by
    intro f
    induction f with
    | zero => intro i h1 h2; exact absurd ‹_ < _ + 0› (by omega)
    | succ f ih =>
      intro i h1 h2
      refine z_iload_n dX4_putAside_2 rfl rfl ?_
      refine z_sipush (v := 2386) dX4_putAside_3 (by decide) ?_
      refine z_icmp_ge (tgt := 27) dX4_putAside_6 (by decide) (fun hb => ?_) (fun hb => ?_)
      · have hb := nle (a := 2386) hb
        have e : i = 2386 := by omega
        subst e
        refine z_vret hR dX4_putAside_27 (⟨rfl, rfl⟩)
      · have hb := nnle (a := 2386) hb
        refine z_aload_n dX4_putAside_9 rfl rfl ?_
        refine zg_X4_aside dX4_putAside_10 tw_553 ?_
        refine z_iload_n dX4_putAside_13 rfl rfl ?_
        refine z_aload_n dX4_putAside_14 rfl rfl ?_
        refine zg_X4_at dX4_putAside_15 tw_552 ?_
        refine z_iload_n dX4_putAside_18 rfl rfl ?_
        refine z_iald dX4_putAside_19 (fun _ _ => rfl) rfl hb ?_
        refine z_top ((show _ = μ (21, 0, 0) i by rw [st_ne _ _ (by simp)])) ?_
        refine z_iast dX4_putAside_20 (fun _ _ => rfl) rfl hb ?_
        refine z_incS dX4_putAside_21 rfl (inc1 _) (by decide) rfl ?_
        refine z_goto (tgt := 2) dX4_putAside_24 (by decide) ?_
        refine z_mu ?_ (ih (i + 1) (by omega) (by omega))
        rw [st_upd]
        congr 1
        exact pre_upd rfl
  refine z_ls (ls' := [zR (20, 0, 0), zN]) rfl ?_
  refine z_iconst (v := 0) dX4_putAside_0 (by decide) ?_
  refine z_istS_n dX4_putAside_1 rfl (by decide) rfl ?_
  refine z_mu ?_ (loop 2387 0 (by omega) (by omega))
  rw [pre_0, st_self]
theorem m_putBack (μ : zM) : zCv yX4_putBack prog_6_method_7_code 2 (none : Option Jvm.ClassFile.FieldType) 1 [zR (20, 0, 0)] μ (fun μ' => μ' = st μ (21, 0, 0) (fun j => if j < 2386 then μ (22, 0, 0) j else μ (21, 0, 0) j)) := by
  refine zCt.of "DyeTankModel" rfl (by decide +kernel) rfl (Nat.le_of_ble_eq_true rfl) (fun K hR => ?_)
  have v20 := zv_20
  have v21 := zv_21
  have v22 := zv_22
  have v23 := zv_23
  have v24 := zv_24
  have v25 := zv_25
  have v26 := zv_26
  have v27 := zv_27
  have v28 := zv_28
  have loop : ∀ (f i : Nat), i ≤ 2386 → 2386 < i + f → Z K 1 "DyeTankModel" prog_6_method_7_code 2 2 [zR (20, 0, 0), zI (nI i)] [] (st μ (21, 0, 0) (fun j => if j < i then μ (22, 0, 0) j else μ (21, 0, 0) j)) := by
    intro f
    induction f with
    | zero => intro i h1 h2; exact absurd ‹_ < _ + 0› (by omega)
    | succ f ih =>
      intro i h1 h2
      refine z_iload_n dX4_putBack_2 rfl rfl ?_
      refine z_sipush (v := 2386) dX4_putBack_3 (by decide) ?_
      refine z_icmp_ge (tgt := 27) dX4_putBack_6 (by decide) (fun hb => ?_) (fun hb => ?_)
      · have hb := nle (a := 2386) hb
        have e : i = 2386 := by omega
        subst e
        refine z_vret hR dX4_putBack_27 (⟨rfl, rfl⟩)
      · have hb := nnle (a := 2386) hb
        refine z_aload_n dX4_putBack_9 rfl rfl ?_
        refine zg_X4_at dX4_putBack_10 tw_552 ?_
        refine z_iload_n dX4_putBack_13 rfl rfl ?_
        refine z_aload_n dX4_putBack_14 rfl rfl ?_
        refine zg_X4_aside dX4_putBack_15 tw_553 ?_
        refine z_iload_n dX4_putBack_18 rfl rfl ?_
        refine z_iald dX4_putBack_19 (fun _ _ => rfl) rfl hb ?_
        refine z_top ((show _ = μ (22, 0, 0) i by rw [st_ne _ _ (by simp)])) ?_
        refine z_iast dX4_putBack_20 (fun _ _ => rfl) rfl hb ?_
        refine z_incS dX4_putBack_21 rfl (inc1 _) (by decide) rfl ?_
        refine z_goto (tgt := 2) dX4_putBack_24 (by decide) ?_
        refine z_mu ?_ (ih (i + 1) (by omega) (by omega))
        rw [st_upd]
        congr 1
        exact pre_upd rfl
  refine z_ls (ls' := [zR (20, 0, 0), zN]) rfl ?_
  refine z_iconst (v := 0) dX4_putBack_0 (by decide) ?_
  refine z_istS_n dX4_putBack_1 rfl (by decide) rfl ?_
  refine z_mu ?_ (loop 2387 0 (by omega) (by omega))
  rw [pre_0, st_self]
def beg (n : Int32) : Nat → Int32 := fun k => if k = 0 then n else if k = 2 then 20 else if k = 3 then 10 else if k = 5 then 5 else if k = 7 then 50 else if k = 8 then 20 else 0
theorem m_begin (μ : zM) (n : Int32) : zCv yX4_begin prog_6_method_5_code 3 (none : Option Jvm.ClassFile.FieldType) 1 [zR (20, 0, 0), zI n] μ (fun μ' => ∃ f, μ' = st μ (21, 0, 0) f ∧ ∀ k, k < 2386 → f k = beg n k) := by
  refine zCt.of "DyeTankModel" rfl (by decide +kernel) rfl (Nat.le_of_ble_eq_true rfl) (fun K hR => ?_)
  have v20 := zv_20
  have v21 := zv_21
  have v22 := zv_22
  have v23 := zv_23
  have v24 := zv_24
  have v25 := zv_25
  have v26 := zv_26
  have v27 := zv_27
  have v28 := zv_28
  have loop : ∀ (f i : Nat), i ≤ 2386 → 2386 < i + f → Z K 1 "DyeTankModel" prog_6_method_5_code 3 2 [zR (20, 0, 0), zI n, zI (nI i)] [] (st μ (21, 0, 0) (fun j => if j < i then (fun _ => 0) j else μ (21, 0, 0) j)) := by
    intro f
    induction f with
    | zero => intro i h1 h2; exact absurd ‹_ < _ + 0› (by omega)
    | succ f ih =>
      intro i h1 h2
      refine z_iload_n dX4_begin_2 rfl rfl ?_
      refine z_sipush (v := 2386) dX4_begin_3 (by decide) ?_
      refine z_icmp_ge (tgt := 22) dX4_begin_6 (by decide) (fun hb => ?_) (fun hb => ?_)
      · have hb := nle (a := 2386) hb
        have e : i = 2386 := by omega
        subst e
        refine z_aload_n dX4_begin_22 rfl rfl ?_
        refine zg_X4_at dX4_begin_23 tw_552 ?_
        refine z_iconst (v := 0) dX4_begin_26 (by decide) ?_
        refine z_iload_n dX4_begin_27 rfl rfl ?_
        refine z_iast dX4_begin_28 (fun _ _ => rfl) rfl (i := 0) (by decide) ?_
        refine z_mu (st_upd _ _ _ _ _) ?_
        refine z_aload_n dX4_begin_29 rfl rfl ?_
        refine zg_X4_at dX4_begin_30 tw_552 ?_
        refine z_iconst (v := 2) dX4_begin_33 (by decide) ?_
        refine z_bipush (v := 20) dX4_begin_34 (by decide) ?_
        refine z_iast dX4_begin_36 (fun _ _ => rfl) rfl (i := 2) (by decide) ?_
        refine z_mu (st_upd _ _ _ _ _) ?_
        refine z_aload_n dX4_begin_37 rfl rfl ?_
        refine zg_X4_at dX4_begin_38 tw_552 ?_
        refine z_iconst (v := 3) dX4_begin_41 (by decide) ?_
        refine z_bipush (v := 10) dX4_begin_42 (by decide) ?_
        refine z_iast dX4_begin_44 (fun _ _ => rfl) rfl (i := 3) (by decide) ?_
        refine z_mu (st_upd _ _ _ _ _) ?_
        refine z_aload_n dX4_begin_45 rfl rfl ?_
        refine zg_X4_at dX4_begin_46 tw_552 ?_
        refine z_iconst (v := 5) dX4_begin_49 (by decide) ?_
        refine z_iconst (v := 5) dX4_begin_50 (by decide) ?_
        refine z_iast dX4_begin_51 (fun _ _ => rfl) rfl (i := 5) (by decide) ?_
        refine z_mu (st_upd _ _ _ _ _) ?_
        refine z_aload_n dX4_begin_52 rfl rfl ?_
        refine zg_X4_at dX4_begin_53 tw_552 ?_
        refine z_bipush (v := 7) dX4_begin_56 (by decide) ?_
        refine z_bipush (v := 50) dX4_begin_58 (by decide) ?_
        refine z_iast dX4_begin_60 (fun _ _ => rfl) rfl (i := 7) (by decide) ?_
        refine z_mu (st_upd _ _ _ _ _) ?_
        refine z_aload_n dX4_begin_61 rfl rfl ?_
        refine zg_X4_at dX4_begin_62 tw_552 ?_
        refine z_bipush (v := 8) dX4_begin_65 (by decide) ?_
        refine z_bipush (v := 20) dX4_begin_67 (by decide) ?_
        refine z_iast dX4_begin_69 (fun _ _ => rfl) rfl (i := 8) (by decide) ?_
        refine z_mu (st_upd _ _ _ _ _) ?_
        refine z_vret hR dX4_begin_70 (⟨rfl, _, rfl, ?_⟩)
        intro k hk
        unfold upd beg
        by_cases h8 : k = 8
        · subst h8; rfl
        · rw [if_neg h8]
          by_cases h7 : k = 7
          · subst h7; rfl
          · rw [if_neg h7]
            by_cases h5 : k = 5
            · subst h5; rfl
            · rw [if_neg h5]
              by_cases h3 : k = 3
              · subst h3; rfl
              · rw [if_neg h3]
                by_cases h2 : k = 2
                · subst h2; rfl
                · rw [if_neg h2]
                  by_cases h0 : k = 0
                  · subst h0; rfl
                  · rw [if_neg h0, if_neg h0, if_neg h2, if_neg h3, if_neg h5, if_neg h7, if_neg h8]
                    exact if_pos hk
      · have hb := nnle (a := 2386) hb
        refine z_aload_n dX4_begin_9 rfl rfl ?_
        refine zg_X4_at dX4_begin_10 tw_552 ?_
        refine z_iload_n dX4_begin_13 rfl rfl ?_
        refine z_iconst (v := 0) dX4_begin_14 (by decide) ?_
        refine z_iast dX4_begin_15 (fun _ _ => rfl) rfl hb ?_
        refine z_incS dX4_begin_16 rfl (inc1 _) (by decide) rfl ?_
        refine z_goto (tgt := 2) dX4_begin_19 (by decide) ?_
        refine z_mu ?_ (ih (i + 1) (by omega) (by omega))
        rw [st_upd]
        congr 1
        exact pre_upd (f := fun _ => 0) rfl
  refine z_ls (ls' := [zR (20, 0, 0), zI n, zN]) rfl ?_
  refine z_iconst (v := 0) dX4_begin_0 (by decide) ?_
  refine z_istS_n dX4_begin_1 rfl (by decide) rfl ?_
  refine z_mu ?_ (loop 2387 0 (by omega) (by omega))
  rw [pre_0 (f := fun _ => 0), st_self]
