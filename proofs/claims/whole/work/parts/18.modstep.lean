/-! a stretch of the row replaced -/
def rg (lo len : Nat) (f a : Nat → Int32) (k : Nat) : Int32 := if lo ≤ k ∧ k < lo + len then f (k - lo) else a k
theorem rg_in {lo len : Nat} {f a : Nat → Int32} {i : Nat} (h : i < len) : rg lo len f a (lo + i) = f i := by
  unfold rg
  rw [if_pos (by omega), Nat.add_sub_cancel_left]
theorem rg_out {lo len : Nat} {f a : Nat → Int32} {k : Nat} (h : k < lo ∨ lo + len ≤ k) : rg lo len f a k = a k := if_neg (by omega)
theorem rg_upd {lo len : Nat} {f a : Nat → Int32} {i : Nat} {x : Int32} (h : i < len) : upd (rg lo len f a) (lo + i) x = rg lo len (upd f i x) a := by
  funext k
  unfold upd rg
  by_cases e : k = lo + i
  · subst e
    rw [if_pos rfl, if_pos (by omega), Nat.add_sub_cancel_left]
    exact (if_pos rfl).symm
  · rw [if_neg e]
    by_cases h2 : lo ≤ k ∧ k < lo + len
    · rw [if_pos h2, if_pos h2]
      exact (if_neg (by omega)).symm
    · rw [if_neg h2, if_neg h2]
theorem rg_self {lo len : Nat} {f a : Nat → Int32} (h : ∀ i, i < len → f i = a (lo + i)) : rg lo len f a = a := by
  funext k
  unfold rg
  by_cases h2 : lo ≤ k ∧ k < lo + len
  · rw [if_pos h2, h _ (by omega)]
    congr 1
    omega
  · rw [if_neg h2]
theorem rg_congr {lo len : Nat} {f g a : Nat → Int32} (h : ∀ i, i < len → f i = g i) : rg lo len f a = rg lo len g a := by
  funext k
  unfold rg
  by_cases h2 : lo ≤ k ∧ k < lo + len
  · rw [if_pos h2, if_pos h2, h _ (by omega)]
  · rw [if_neg h2, if_neg h2]
def momE (S P : Nat → Int32) (n i j : Nat) : Int32 := if j < i then P j + inn S P j - out S P n j + fri S P j else if j = i ∧ i < n then P j + inn S P j else P j
theorem momE_0 (S P : Nat → Int32) {n : Nat} (hn : 0 < n) : momE S P n 0 = P := by
  funext j
  unfold momE
  rw [if_neg (by omega)]
  by_cases h : j = 0 ∧ 0 < n
  · rw [if_pos h]
    unfold inn
    rw [if_pos h.1, Int32.add_zero]
  · rw [if_neg h]
theorem momE_s1 (S P : Nat → Int32) {n i : Nat} (hi : i + 1 < n) : upd (upd (upd (momE S P n i) i (momE S P n i i - mv S P i)) (i + 1) (upd (momE S P n i) i (momE S P n i i - mv S P i) (i + 1) + mv S P i)) i (upd (upd (momE S P n i) i (momE S P n i i - mv S P i)) (i + 1) (upd (momE S P n i) i (momE S P n i i - mv S P i) (i + 1) + mv S P i) i + fri S P i) = momE S P n (i + 1) := by
  funext j
  unfold upd
  by_cases h1 : j = i
  · subst h1
    rw [if_pos rfl, if_neg (by omega), if_pos rfl]
    unfold momE out
    rw [if_neg (by omega), if_pos (by omega), if_pos (by omega), if_pos hi]
  · rw [if_neg h1]
    by_cases h2 : j = i + 1
    · subst h2
      rw [if_pos rfl, if_neg (by omega)]
      unfold momE inn
      rw [if_neg (by omega), if_neg (by omega), if_neg (by omega), if_pos (by omega), if_neg (by omega), Nat.add_sub_cancel]
    · rw [if_neg h2, if_neg h1]
      unfold momE
      by_cases h3 : j < i
      · rw [if_pos h3, if_pos (by omega)]
      · rw [if_neg h3, if_neg (by omega), if_neg (by omega), if_neg (by omega)]
theorem momE_s2 (S P : Nat → Int32) {n i : Nat} (hi : i + 1 = n) : upd (momE S P n i) i (momE S P n i i + fri S P i) = momE S P n (i + 1) := by
  funext j
  unfold upd
  by_cases h1 : j = i
  · subst h1
    rw [if_pos rfl]
    unfold momE out
    rw [if_neg (by omega), if_pos (by omega), if_pos (by omega), if_neg (by omega), Int32.sub_zero]
  · rw [if_neg h1]
    unfold momE
    by_cases h3 : j < i
    · rw [if_pos h3, if_pos (by omega)]
    · rw [if_neg h3, if_neg (by omega), if_neg (by omega), if_neg (by omega)]
theorem momE_n (S P : Nat → Int32) {n : Nat} (hn : 2 ≤ n) : upd (momE S P n n) (n - 1) (momE S P n n (n - 1) + S 1 * (S 2 - vel P (n - 1)) / 100) = mom S P n := by
  funext j
  unfold upd mom momE
  by_cases h1 : j = n - 1
  · subst h1
    rw [if_pos rfl, if_pos (by omega), if_pos (by omega)]
    unfold wal
    rw [if_pos (by omega), Int32.add_assoc, Int32.add_comm (fri S P (n - 1)), ← Int32.add_assoc]
  · rw [if_neg h1]
    by_cases h2 : j < n
    · rw [if_pos h2, if_pos h2]
      unfold wal
      rw [if_neg (by omega), Int32.add_zero]
    · rw [if_neg h2, if_neg h2, if_neg (by omega)]
theorem m_stepMomenta (μ : zM) (n : Nat) (hn : μ (21, 0, 0) 0 = nI n) (hn2 : 2 ≤ n) (hn12 : n ≤ 12) : zCv yX4_stepMomenta prog_6_method_23_code 4 (none : Option Jvm.ClassFile.FieldType) 3 [zR (20, 0, 0)] μ (fun μ' => zoff [(21, 0, 0), (26, 0, 0)] μ μ' ∧ μ' (21, 0, 0) = rg 9 12 (mom (aS (μ (21, 0, 0))) (aP (μ (21, 0, 0))) n) (μ (21, 0, 0))) := by
  refine zCt.of "DyeTankModel" rfl (by decide +kernel) rfl (Nat.le_of_ble_eq_true rfl) (fun K hR => ?_)
  have v20 := zv_20
  have v21 := zv_21
  have v22 := zv_22
  have v23 := zv_23
  have v24 := zv_24
  have v25 := zv_25
  have v26 := zv_26
  have v27 := zv_27
  have v28 := zv_28
  generalize hS : aS (μ (21, 0, 0)) = S
  generalize hP : aP (μ (21, 0, 0)) = P
  have s0 : μ (21, 0, 0) 2 = S 0 := by rw [← hS]; rfl
  have s1 : μ (21, 0, 0) 3 = S 1 := by rw [← hS]; rfl
  have s2 : μ (21, 0, 0) 4 = S 2 := by rw [← hS]; rfl
  have s3 : μ (21, 0, 0) 5 = S 3 := by rw [← hS]; rfl
  have s4 : μ (21, 0, 0) 6 = S 4 := by rw [← hS]; rfl
  have loop : ∀ (f i : Nat) (x3 : zV) (μ' : zM), i ≤ n → n < i + f → zoff [(21, 0, 0), (26, 0, 0)] μ μ' → (∀ j, j < n → μ' (26, 0, 0) j = vel P j) → μ' (21, 0, 0) = rg 9 12 (momE S P n i) (μ (21, 0, 0)) → Z K 3 "DyeTankModel" prog_6_method_23_code 4 33 [zR (20, 0, 0), zI (nI n), zI (nI i), x3] [] μ' := by
    intro f
    induction f with
    | zero => intro i x3 μ' h1 h2 h3 h4 h5; exact absurd ‹_ < _ + 0› (by omega)
    | succ f ih =>
      intro i x3 μ' h1 h2 ho hV ha
      have q : ∀ k, k < 9 → μ' (21, 0, 0) k = μ (21, 0, 0) k := fun k hk => by rw [ha]; exact rg_out (Or.inl hk)
      refine z_iload_n dX4_stepMomenta_33 rfl rfl ?_
      refine z_iload_n dX4_stepMomenta_34 rfl rfl ?_
      refine z_icmp_ge (tgt := 148) dX4_stepMomenta_35 (by decide) (fun hb => ?_) (fun hb => ?_)
      · have hb := nle hb
        have e : i = n := by omega
        subst e
        refine z_aload_n dX4_stepMomenta_148 rfl rfl ?_
        refine zg_X4_at dX4_stepMomenta_149 tw_552 ?_
        refine z_bipush (v := 9) dX4_stepMomenta_152 (by decide) ?_
        refine z_iload_n dX4_stepMomenta_154 rfl rfl ?_
        refine z_iadd dX4_stepMomenta_155 ?_
        refine z_top ((nI_add 9 i)) ?_
        refine z_iconst (v := 1) dX4_stepMomenta_156 (by decide) ?_
        refine z_isub dX4_stepMomenta_157 ?_
        refine z_top ((show nI (9 + i) - nI 1 = nI (9 + (i - 1)) by rw [pk_sub (by omega)]; congr 1; omega)) ?_
        refine z_dup2 dX4_stepMomenta_158 rfl rfl ?_
        refine z_iald dX4_stepMomenta_159 (fun _ _ => rfl) rfl (show 9 + (i - 1) < 2386 by omega) ?_
        refine z_aload_n dX4_stepMomenta_160 rfl rfl ?_
        refine zg_X4_at dX4_stepMomenta_161 tw_552 ?_
        refine z_iconst (v := 3) dX4_stepMomenta_164 (by decide) ?_
        refine z_iald dX4_stepMomenta_165 (fun _ _ => rfl) rfl (i := 3) (by decide) ?_
        refine z_aload_n dX4_stepMomenta_166 rfl rfl ?_
        refine zg_X4_at dX4_stepMomenta_167 tw_552 ?_
        refine z_iconst (v := 4) dX4_stepMomenta_170 (by decide) ?_
        refine z_iald dX4_stepMomenta_171 (fun _ _ => rfl) rfl (i := 4) (by decide) ?_
        refine z_aload_n dX4_stepMomenta_172 rfl rfl ?_
        refine zg_X4_speed dX4_stepMomenta_173 tw_557 ?_
        refine z_iload_n dX4_stepMomenta_176 rfl rfl ?_
        refine z_iconst (v := 1) dX4_stepMomenta_177 (by decide) ?_
        refine z_isub dX4_stepMomenta_178 ?_
        refine z_top ((show nI i - nI 1 = nI (i - 1) from pk_sub (by omega))) ?_
        refine z_iald dX4_stepMomenta_179 (fun _ _ => rfl) rfl (show i - 1 < 12 by omega) ?_
        refine z_isub dX4_stepMomenta_180 ?_
        refine z_imul dX4_stepMomenta_181 ?_
        refine z_bipush (v := 100) dX4_stepMomenta_182 (by decide) ?_
        refine z_idiv dX4_stepMomenta_184 (by decide) ?_
        refine z_top ((show _ = S 1 * (S 2 - vel P (i - 1)) / 100 by rw [q 3 (by omega), q 4 (by omega), s1, s2, hV _ (by omega)])) ?_
        refine z_iadd dX4_stepMomenta_185 ?_
        refine z_iast dX4_stepMomenta_186 (fun _ _ => rfl) rfl (show 9 + (i - 1) < 2386 by omega) ?_
        refine z_vret hR dX4_stepMomenta_187 (⟨rfl, ho.put (by simp) _, ?_⟩)
        rw [st_eq, ha, rg_in (show i - 1 < 12 by omega), rg_upd (show i - 1 < 12 by omega), momE_n S P hn2, hS, hP]
      · have hb := nnle hb
        have fin : ∀ (x3 : zV) (g : Nat → Int32) (μ2 : zM), zoff [(21, 0, 0), (26, 0, 0)] μ μ2 → μ2 (26, 0, 0) = μ' (26, 0, 0) → μ2 (21, 0, 0) = rg 9 12 g (μ (21, 0, 0)) → upd g i (g i + fri S P i) = momE S P n (i + 1) → Z K 3 "DyeTankModel" prog_6_method_23_code 4 99 [zR (20, 0, 0), zI (nI n), zI (nI i), x3] [] μ2 := by
          intro x3 g μ2 o2 e26 e21 hg
          have q2 : ∀ k, k < 9 → μ2 (21, 0, 0) k = μ (21, 0, 0) k := fun k hk => by rw [e21]; exact rg_out (Or.inl hk)
          refine z_aload_n dX4_stepMomenta_99 rfl rfl ?_
          refine zg_X4_at dX4_stepMomenta_100 tw_552 ?_
          refine z_bipush (v := 9) dX4_stepMomenta_103 (by decide) ?_
          refine z_iload_n dX4_stepMomenta_105 rfl rfl ?_
          refine z_iadd dX4_stepMomenta_106 ?_
          refine z_top ((nI_add 9 i)) ?_
          refine z_dup2 dX4_stepMomenta_107 rfl rfl ?_
          refine z_iald dX4_stepMomenta_108 (fun _ _ => rfl) rfl (show 9 + i < 2386 by omega) ?_
          refine z_aload_n dX4_stepMomenta_109 rfl rfl ?_
          refine zg_X4_at dX4_stepMomenta_110 tw_552 ?_
          refine z_iconst (v := 5) dX4_stepMomenta_113 (by decide) ?_
          refine z_iald dX4_stepMomenta_114 (fun _ _ => rfl) rfl (i := 5) (by decide) ?_
          refine z_aload_n dX4_stepMomenta_115 rfl rfl ?_
          refine zg_X4_at dX4_stepMomenta_116 tw_552 ?_
          refine z_bipush (v := 6) dX4_stepMomenta_119 (by decide) ?_
          refine z_iald dX4_stepMomenta_121 (fun _ _ => rfl) rfl (i := 6) (by decide) ?_
          refine z_aload_n dX4_stepMomenta_122 rfl rfl ?_
          refine zg_X4_speed dX4_stepMomenta_123 tw_557 ?_
          refine z_iload_n dX4_stepMomenta_126 rfl rfl ?_
          refine z_iald dX4_stepMomenta_127 (fun _ _ => rfl) rfl (show i < 12 by omega) ?_
          refine z_isub dX4_stepMomenta_128 ?_
          refine z_imul dX4_stepMomenta_129 ?_
          refine z_iconst (v := 2) dX4_stepMomenta_130 (by decide) ?_
          refine z_iload_n dX4_stepMomenta_131 rfl rfl ?_
          refine z_imul dX4_stepMomenta_132 ?_
          refine z_iconst (v := 1) dX4_stepMomenta_133 (by decide) ?_
          refine z_iadd dX4_stepMomenta_134 ?_
          refine z_top ((wt_eq i)) ?_
          refine z_imul dX4_stepMomenta_135 ?_
          refine z_sipush (v := 1000) dX4_stepMomenta_136 (by decide) ?_
          refine z_idiv dX4_stepMomenta_139 (by decide) ?_
          refine z_top ((show _ = fri S P i by rw [q2 5 (by omega), q2 6 (by omega), s3, s4, e26, hV i hb]; rfl)) ?_
          refine z_iadd dX4_stepMomenta_140 ?_
          refine z_iast dX4_stepMomenta_141 (fun _ _ => rfl) rfl (show 9 + i < 2386 by omega) ?_
          refine z_incS dX4_stepMomenta_142 rfl (inc1 _) (by decide) rfl ?_
          refine z_goto (tgt := 33) dX4_stepMomenta_145 (by decide) ?_
          refine ih (i + 1) _ _ (by omega) (by omega) (o2.put (by simp) _) ?_ ?_
          · rw [st_ne _ _ (by simp), e26]
            exact hV
          · rw [st_eq, e21, rg_in (show i < 12 by omega), rg_upd (show i < 12 by omega), hg]
        refine z_iload_n dX4_stepMomenta_38 rfl rfl ?_
        refine z_iconst (v := 1) dX4_stepMomenta_39 (by decide) ?_
        refine z_iadd dX4_stepMomenta_40 ?_
        refine z_top ((nI_1 i)) ?_
        refine z_iload_n dX4_stepMomenta_41 rfl rfl ?_
        refine z_icmp_ge (tgt := 99) dX4_stepMomenta_42 (by decide) (fun hc => ?_) (fun hc => ?_)
        · have hc := nle hc
          exact fin x3 (momE S P n i) μ' ho rfl ha (momE_s2 S P (by omega))
        · have hc := nnle hc
          refine z_aload_n dX4_stepMomenta_45 rfl rfl ?_
          refine zg_X4_at dX4_stepMomenta_46 tw_552 ?_
          refine z_iconst (v := 2) dX4_stepMomenta_49 (by decide) ?_
          refine z_iald dX4_stepMomenta_50 (fun _ _ => rfl) rfl (i := 2) (by decide) ?_
          refine z_aload_n dX4_stepMomenta_51 rfl rfl ?_
          refine zg_X4_speed dX4_stepMomenta_52 tw_557 ?_
          refine z_iload_n dX4_stepMomenta_55 rfl rfl ?_
          refine z_iald dX4_stepMomenta_56 (fun _ _ => rfl) rfl (show i < 12 by omega) ?_
          refine z_aload_n dX4_stepMomenta_57 rfl rfl ?_
          refine zg_X4_speed dX4_stepMomenta_58 tw_557 ?_
          refine z_iload_n dX4_stepMomenta_61 rfl rfl ?_
          refine z_iconst (v := 1) dX4_stepMomenta_62 (by decide) ?_
          refine z_iadd dX4_stepMomenta_63 ?_
          refine z_top ((nI_1 i)) ?_
          refine z_iald dX4_stepMomenta_64 (fun _ _ => rfl) rfl (show i + 1 < 12 by omega) ?_
          refine z_isub dX4_stepMomenta_65 ?_
          refine z_imul dX4_stepMomenta_66 ?_
          refine z_bipush (v := 100) dX4_stepMomenta_67 (by decide) ?_
          refine z_idiv dX4_stepMomenta_69 (by decide) ?_
          refine z_top ((show _ = mv S P i by rw [q 2 (by omega), s0, hV i (by omega), hV (i + 1) (by omega)]; rfl)) ?_
          refine z_istS_n dX4_stepMomenta_70 rfl (by decide) rfl ?_
          refine z_aload_n dX4_stepMomenta_71 rfl rfl ?_
          refine zg_X4_at dX4_stepMomenta_72 tw_552 ?_
          refine z_bipush (v := 9) dX4_stepMomenta_75 (by decide) ?_
          refine z_iload_n dX4_stepMomenta_77 rfl rfl ?_
          refine z_iadd dX4_stepMomenta_78 ?_
          refine z_top ((nI_add 9 i)) ?_
          refine z_dup2 dX4_stepMomenta_79 rfl rfl ?_
          refine z_iald dX4_stepMomenta_80 (fun _ _ => rfl) rfl (show 9 + i < 2386 by omega) ?_
          refine z_iload_n dX4_stepMomenta_81 rfl rfl ?_
          refine z_isub dX4_stepMomenta_82 ?_
          refine z_iast dX4_stepMomenta_83 (fun _ _ => rfl) rfl (show 9 + i < 2386 by omega) ?_
          refine z_aload_n dX4_stepMomenta_84 rfl rfl ?_
          refine zg_X4_at dX4_stepMomenta_85 tw_552 ?_
          refine z_bipush (v := 9) dX4_stepMomenta_88 (by decide) ?_
          refine z_iload_n dX4_stepMomenta_90 rfl rfl ?_
          refine z_iadd dX4_stepMomenta_91 ?_
          refine z_top ((nI_add 9 i)) ?_
          refine z_iconst (v := 1) dX4_stepMomenta_92 (by decide) ?_
          refine z_iadd dX4_stepMomenta_93 ?_
          refine z_top ((show nI (9 + i) + nI 1 = nI (9 + (i + 1)) by rw [nI_add]; rfl)) ?_
          refine z_dup2 dX4_stepMomenta_94 rfl rfl ?_
          refine z_iald dX4_stepMomenta_95 (fun _ _ => rfl) rfl (show 9 + (i + 1) < 2386 by omega) ?_
          refine z_iload_n dX4_stepMomenta_96 rfl rfl ?_
          refine z_iadd dX4_stepMomenta_97 ?_
          refine z_iast dX4_stepMomenta_98 (fun _ _ => rfl) rfl (show 9 + (i + 1) < 2386 by omega) ?_
          refine fin _ (upd (upd (momE S P n i) i (momE S P n i i - mv S P i)) (i + 1) (upd (momE S P n i) i (momE S P n i i - mv S P i) (i + 1) + mv S P i)) _ ((ho.put (by simp) _).put (by simp) _) ?_ ?_ (momE_s1 S P hc)
          · rw [st_ne _ _ (by simp), st_ne _ _ (by simp)]
          · rw [st_eq, st_eq, ha, rg_in (show i < 12 by omega), rg_upd (show i < 12 by omega), rg_in (show i + 1 < 12 by omega), rg_upd (show i + 1 < 12 by omega)]
  have ini : ∀ (f i : Nat), i ≤ n → n < i + f → Z K 3 "DyeTankModel" prog_6_method_23_code 4 9 [zR (20, 0, 0), zI (nI n), zI (nI i), zN] [] (st μ (26, 0, 0) (fun j => if j < i then vel P j else μ (26, 0, 0) j)) := by
    intro f
    induction f with
    | zero => intro i h1 h2; exact absurd ‹_ < _ + 0› (by omega)
    | succ f ih =>
      intro i h1 h2
      refine z_iload_n dX4_stepMomenta_9 rfl rfl ?_
      refine z_iload_n dX4_stepMomenta_10 rfl rfl ?_
      refine z_icmp_ge (tgt := 31) dX4_stepMomenta_11 (by decide) (fun hb => ?_) (fun hb => ?_)
      · have hb := nle hb
        have e : i = n := by omega
        subst e
        refine z_iconst (v := 0) dX4_stepMomenta_31 (by decide) ?_
        refine z_istS_n dX4_stepMomenta_32 rfl (by decide) rfl ?_
        refine loop (i + 1) 0 zN _ (by omega) (by omega) (zoff.rf.put (by simp) _) ?_ ?_
        · intro j hj
          rw [st_eq, if_pos hj]
        · rw [st_ne _ _ (by simp), momE_0 S P (by omega)]
          exact (rg_self (fun k _ => by rw [← hP]; rfl)).symm
      · have hb := nnle hb
        refine z_aload_n dX4_stepMomenta_14 rfl rfl ?_
        refine zg_X4_speed dX4_stepMomenta_15 tw_557 ?_
        refine z_iload_n dX4_stepMomenta_18 rfl rfl ?_
        refine z_aload_n dX4_stepMomenta_19 rfl rfl ?_
        refine z_iload_n dX4_stepMomenta_20 rfl rfl ?_
        refine z_cVi (m_velocity _ i (by omega)) q_X4_velocity tw_616 dX4_stepMomenta_21 rfl rfl rfl (by omega) (Nat.le_of_ble_eq_true rfl) ?_
        refine z_top ((show _ = vel P i by rw [st_ne _ _ (by simp), hP])) ?_
        refine z_iast dX4_stepMomenta_24 (fun _ _ => rfl) rfl (show i < 12 by omega) ?_
        refine z_incS dX4_stepMomenta_25 rfl (inc1 _) (by decide) rfl ?_
        refine z_goto (tgt := 9) dX4_stepMomenta_28 (by decide) ?_
        refine z_mu ?_ (ih (i + 1) (by omega) (by omega))
        rw [st_upd]
        congr 1
        exact pre_upd rfl
  refine z_ls (ls' := [zR (20, 0, 0), zN, zN, zN]) rfl ?_
  refine z_aload_n dX4_stepMomenta_0 rfl rfl ?_
  refine zg_X4_at dX4_stepMomenta_1 tw_552 ?_
  refine z_iconst (v := 0) dX4_stepMomenta_4 (by decide) ?_
  refine z_iald dX4_stepMomenta_5 (fun _ _ => rfl) rfl (i := 0) (by decide) ?_
  refine z_top (hn) ?_
  refine z_istS_n dX4_stepMomenta_6 rfl (by decide) rfl ?_
  refine z_iconst (v := 0) dX4_stepMomenta_7 (by decide) ?_
  refine z_istS_n dX4_stepMomenta_8 rfl (by decide) rfl ?_
  refine z_mu ?_ (ini (n + 1) 0 (by omega) (by omega))
  rw [pre_0, st_self]
