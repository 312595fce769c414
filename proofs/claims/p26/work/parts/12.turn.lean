/-! steps 1 and 2 of a tick: what becomes of momenta and angles -/
def mv (S P : Nat → Int32) (j : Nat) : Int32 := S 0 * (vel P j - vel P (j + 1)) / 100
def inn (S P : Nat → Int32) (j : Nat) : Int32 := if j = 0 then 0 else mv S P (j - 1)
def out (S P : Nat → Int32) (n j : Nat) : Int32 := if j + 1 < n then mv S P j else 0
def wal (S P : Nat → Int32) (n j : Nat) : Int32 := if j + 1 = n then S 1 * (S 2 - vel P j) / 100 else 0
def fri (S P : Nat → Int32) (j : Nat) : Int32 := S 3 * (S 4 - vel P j) * nI (2 * j + 1) / 1000
def mom (S P : Nat → Int32) (n j : Nat) : Int32 := if j < n then P j + inn S P j - out S P n j + wal S P n j + fri S P j else P j
def ang (S P A : Nat → Int32) (n j : Nat) : Int32 := if j < n then fmd (A j + vel (mom S P n) j) 3600 else A j
def momB (S P : Nat → Int32) (i j : Nat) : Int32 := if j < i then P j + inn S P j - mv S P j else if j = i then P j + inn S P j else P j
def momC (S P : Nat → Int32) (n j : Nat) : Int32 := momB S P (n - 1) j + wal S P n j
theorem momB_0 (S P : Nat → Int32) : momB S P 0 = P := by
  funext j
  unfold momB inn
  rw [if_neg (by omega)]
  by_cases h : j = 0
  · rw [if_pos h, if_pos h, Int32.add_zero]
  · rw [if_neg h]
theorem momB_s (S P : Nat → Int32) (i : Nat) : upd (upd (momB S P i) i (momB S P i i - mv S P i)) (i + 1) (upd (momB S P i) i (momB S P i i - mv S P i) (i + 1) + mv S P i) = momB S P (i + 1) := by
  funext j
  unfold upd
  by_cases h1 : j = i + 1
  · subst h1
    rw [if_pos rfl, if_neg (by omega)]
    unfold momB inn
    rw [if_neg (by omega), if_neg (by omega), if_neg (by omega), if_pos rfl, if_neg (by omega), Nat.add_sub_cancel]
  · rw [if_neg h1]
    by_cases h2 : j = i
    · subst h2
      rw [if_pos rfl]
      unfold momB
      rw [if_neg (by omega), if_pos rfl, if_pos (by omega)]
    · rw [if_neg h2]
      unfold momB
      by_cases h3 : j < i
      · rw [if_pos h3, if_pos (by omega)]
      · rw [if_neg h3, if_neg h2, if_neg (by omega), if_neg h1]
theorem mom_eq (S P : Nat → Int32) {n : Nat} (hn : 2 ≤ n) : (fun j => if j < n then momC S P n j + fri S P j else momC S P n j) = mom S P n := by
  funext j
  unfold mom momC momB out wal
  by_cases h : j < n
  · rw [if_pos h, if_pos h]
    by_cases h1 : j + 1 < n
    · rw [if_pos (show j < n - 1 by omega), if_pos h1]
    · rw [if_neg (show ¬ j < n - 1 by omega), if_pos (show j = n - 1 by omega), if_neg h1, Int32.sub_zero]
  · rw [if_neg h, if_neg h, if_neg (show ¬ j < n - 1 by omega), if_neg (show ¬ j = n - 1 by omega), if_neg (show ¬ j + 1 = n by omega), Int32.add_zero]
theorem c_changeMomenta (μ : zM) (t n : Nat) (ht : t < 4) (hn : μ (5, t, 0) 0 = nI n) (hn2 : 2 ≤ n) (hn12 : n ≤ 12) : zCv yX2_changeMomenta prog_4_method_26_code 4 (none : Option Jvm.ClassFile.FieldType) 3 [zR (5, t, 0)] μ (fun μ' => zoff [(7, t, 0), (16, t, 0)] μ μ' ∧ μ' (7, t, 0) = mom (μ (6, t, 0)) (μ (7, t, 0)) n) := by
  refine zCt.of "DyeTank$Tank" rfl (by decide +kernel) rfl (Nat.le_of_ble_eq_true rfl) (fun K hR => ?_)
  have v5 := zv_5 t ht
  have v6 := zv_6 t ht
  have v7 := zv_7 t ht
  have v8 := zv_8 t ht
  have v9 := zv_9 t ht
  have v10 := zv_10 t ht
  have v12 := zv_12 t ht
  have v16 := zv_16 t ht
  have v17 := zv_17 t ht
  have v18 := zv_18 t ht
  have fin : ∀ (x3 : zV) (lst : Int32) (f i : Nat) (μ' : zM), i ≤ n → n < i + f → zoff [(7, t, 0), (16, t, 0)] μ μ' → (∀ j, j < n → μ' (16, t, 0) j = vel (μ (7, t, 0)) j) → μ' (7, t, 0) = (fun j => if j < i then momC (μ (6, t, 0)) (μ (7, t, 0)) n j + fri (μ (6, t, 0)) (μ (7, t, 0)) j else momC (μ (6, t, 0)) (μ (7, t, 0)) n j) → Z K 3 "DyeTank$Tank" prog_4_method_26_code 4 129 [zR (5, t, 0), zI lst, zI (nI i), x3] [] μ' := by
    intro x3 lst
    intro f
    induction f with
    | zero => intro i μ' h1 h2 h3 h4 h5; exact absurd ‹_ < _ + 0› (by omega)
    | succ f ih =>
      intro i μ' h1 h2 ho hV h7
      have h6 := ho.at (6, t, 0)
      have hr := ho.at (5, t, 0)
      refine z_iload_n dX2_changeMomenta_129 rfl rfl ?_
      refine z_aload_n dX2_changeMomenta_130 rfl rfl ?_
      refine zg_X2_rings dX2_changeMomenta_131 tw_70 ?_
      refine z_top ((show _ = nI n by rw [hr]; exact hn)) ?_
      refine z_icmp_ge (tgt := 181) dX2_changeMomenta_134 (by decide) (fun hb => ?_) (fun hb => ?_)
      · have hb := nle hb
        have e : i = n := by omega
        subst e
        refine z_vret hR dX2_changeMomenta_181 (⟨rfl, ho, by rw [h7]; exact mom_eq _ _ hn2⟩)
      · have hb := nnle hb
        refine z_aload_n dX2_changeMomenta_137 rfl rfl ?_
        refine zg_X2_momenta dX2_changeMomenta_138 tw_78 ?_
        refine z_iload_n dX2_changeMomenta_141 rfl rfl ?_
        refine z_dup2 dX2_changeMomenta_142 rfl rfl ?_
        refine z_iald dX2_changeMomenta_143 (fun _ _ => rfl) rfl (by omega) ?_
        refine z_aload_n dX2_changeMomenta_144 rfl rfl ?_
        refine zg_X2_settings dX2_changeMomenta_145 tw_76 ?_
        refine z_iconst (v := 3) dX2_changeMomenta_148 (by decide) ?_
        refine z_iald dX2_changeMomenta_149 (fun _ _ => rfl) rfl (i := 3) (by decide) ?_
        refine z_aload_n dX2_changeMomenta_150 rfl rfl ?_
        refine zg_X2_settings dX2_changeMomenta_151 tw_76 ?_
        refine z_iconst (v := 4) dX2_changeMomenta_154 (by decide) ?_
        refine z_iald dX2_changeMomenta_155 (fun _ _ => rfl) rfl (i := 4) (by decide) ?_
        refine z_aload_n dX2_changeMomenta_156 rfl rfl ?_
        refine zg_X2_speeds dX2_changeMomenta_157 tw_88 ?_
        refine z_iload_n dX2_changeMomenta_160 rfl rfl ?_
        refine z_iald dX2_changeMomenta_161 (fun _ _ => rfl) rfl (by omega) ?_
        refine z_isub dX2_changeMomenta_162 ?_
        refine z_imul dX2_changeMomenta_163 ?_
        refine z_iload_n dX2_changeMomenta_164 rfl rfl ?_
        refine z_cSi (c_weightOf _ i) q_X2_weightOf tw_212 dX2_changeMomenta_165 rfl rfl (by omega) (Nat.le_of_ble_eq_true rfl) ?_
        refine z_imul dX2_changeMomenta_168 ?_
        refine z_sipush (v := 1000) dX2_changeMomenta_169 (by decide) ?_
        have h7i : μ' (7, t, 0) i = momC (μ (6, t, 0)) (μ (7, t, 0)) n i := by rw [h7]; exact if_neg (by omega)
        refine z_idiv dX2_changeMomenta_172 (by decide) ?_
        refine z_iadd dX2_changeMomenta_173 ?_
        refine z_top ((show _ = momC (μ (6, t, 0)) (μ (7, t, 0)) n i + fri (μ (6, t, 0)) (μ (7, t, 0)) i by rw [h7i, h6, hV i hb]; rfl)) ?_
        refine z_iast dX2_changeMomenta_174 (fun _ _ => rfl) rfl (by omega) ?_
        refine z_incS dX2_changeMomenta_175 rfl (inc1 _) (by decide) rfl ?_
        refine z_goto (tgt := 129) dX2_changeMomenta_178 (by decide) ?_
        refine ih (i + 1) _ (by omega) (by omega) (ho.put (by simp) _) (by simpa [st] using hV) ?_
        rw [st_eq, h7]
        exact pre_upd rfl
  have mid : ∀ (f i : Nat) (x3 : zV) (μ' : zM), i ≤ n - 1 → n - 1 < i + f → zoff [(7, t, 0), (16, t, 0)] μ μ' → (∀ j, j < n → μ' (16, t, 0) j = vel (μ (7, t, 0)) j) → μ' (7, t, 0) = momB (μ (6, t, 0)) (μ (7, t, 0)) i → Z K 3 "DyeTank$Tank" prog_4_method_26_code 4 36 [zR (5, t, 0), zI (nI (n - 1)), zI (nI i), x3] [] μ' := by
    intro f
    induction f with
    | zero => intro i x3 μ' h1 h2 h3 h4 h5; exact absurd ‹_ < _ + 0› (by omega)
    | succ f ih =>
      intro i x3 μ' h1 h2 ho hV h7
      have h6 := ho.at (6, t, 0)
      refine z_iload_n dX2_changeMomenta_36 rfl rfl ?_
      refine z_iload_n dX2_changeMomenta_37 rfl rfl ?_
      refine z_icmp_ge (tgt := 95) dX2_changeMomenta_38 (by decide) (fun hb => ?_) (fun hb => ?_)
      · have hb := nle hb
        have e : i = n - 1 := by omega
        refine z_aload_n dX2_changeMomenta_95 rfl rfl ?_
        refine zg_X2_momenta dX2_changeMomenta_96 tw_78 ?_
        refine z_iload_n dX2_changeMomenta_99 rfl rfl ?_
        refine z_dup2 dX2_changeMomenta_100 rfl rfl ?_
        refine z_iald dX2_changeMomenta_101 (fun _ _ => rfl) rfl (show n - 1 < 12 by omega) ?_
        refine z_aload_n dX2_changeMomenta_102 rfl rfl ?_
        refine zg_X2_settings dX2_changeMomenta_103 tw_76 ?_
        refine z_iconst (v := 1) dX2_changeMomenta_106 (by decide) ?_
        refine z_iald dX2_changeMomenta_107 (fun _ _ => rfl) rfl (i := 1) (by decide) ?_
        refine z_aload_n dX2_changeMomenta_108 rfl rfl ?_
        refine zg_X2_settings dX2_changeMomenta_109 tw_76 ?_
        refine z_iconst (v := 2) dX2_changeMomenta_112 (by decide) ?_
        refine z_iald dX2_changeMomenta_113 (fun _ _ => rfl) rfl (i := 2) (by decide) ?_
        refine z_aload_n dX2_changeMomenta_114 rfl rfl ?_
        refine zg_X2_speeds dX2_changeMomenta_115 tw_88 ?_
        refine z_iload_n dX2_changeMomenta_118 rfl rfl ?_
        refine z_iald dX2_changeMomenta_119 (fun _ _ => rfl) rfl (show n - 1 < 12 by omega) ?_
        refine z_isub dX2_changeMomenta_120 ?_
        refine z_imul dX2_changeMomenta_121 ?_
        refine z_bipush (v := 100) dX2_changeMomenta_122 (by decide) ?_
        refine z_idiv dX2_changeMomenta_124 (by decide) ?_
        refine z_iadd dX2_changeMomenta_125 ?_
        refine z_top ((show _ = momC (μ (6, t, 0)) (μ (7, t, 0)) n (n - 1) by rw [h7, h6, hV (n - 1) (by omega), e]; unfold momC wal; rw [if_pos (by omega)])) ?_
        refine z_iast dX2_changeMomenta_126 (fun _ _ => rfl) rfl (show n - 1 < 12 by omega) ?_
        refine z_iconst (v := 0) dX2_changeMomenta_127 (by decide) ?_
        refine z_istS_n dX2_changeMomenta_128 rfl (by decide) rfl ?_
        refine fin x3 _ (n + 1) 0 _ (by omega) (by omega) (ho.put (by simp) _) (by simpa [st] using hV) ?_
        rw [st_eq, h7]
        funext j
        rw [if_neg (by omega)]
        unfold upd
        by_cases h : j = n - 1
        · subst h
          rw [if_pos rfl]
        · rw [if_neg h, e]
          unfold momC wal
          rw [if_neg (by omega), Int32.add_zero]
      · have hb := nnle hb
        refine z_aload_n dX2_changeMomenta_41 rfl rfl ?_
        refine zg_X2_settings dX2_changeMomenta_42 tw_76 ?_
        refine z_iconst (v := 0) dX2_changeMomenta_45 (by decide) ?_
        refine z_iald dX2_changeMomenta_46 (fun _ _ => rfl) rfl (i := 0) (by decide) ?_
        refine z_aload_n dX2_changeMomenta_47 rfl rfl ?_
        refine zg_X2_speeds dX2_changeMomenta_48 tw_88 ?_
        refine z_iload_n dX2_changeMomenta_51 rfl rfl ?_
        refine z_iald dX2_changeMomenta_52 (fun _ _ => rfl) rfl (by omega) ?_
        refine z_aload_n dX2_changeMomenta_53 rfl rfl ?_
        refine zg_X2_speeds dX2_changeMomenta_54 tw_88 ?_
        refine z_iload_n dX2_changeMomenta_57 rfl rfl ?_
        refine z_iconst (v := 1) dX2_changeMomenta_58 (by decide) ?_
        refine z_iadd dX2_changeMomenta_59 ?_
        refine z_top ((nI_1 i)) ?_
        refine z_iald dX2_changeMomenta_60 (fun _ _ => rfl) rfl (show i + 1 < 12 by omega) ?_
        refine z_isub dX2_changeMomenta_61 ?_
        refine z_imul dX2_changeMomenta_62 ?_
        refine z_bipush (v := 100) dX2_changeMomenta_63 (by decide) ?_
        refine z_idiv dX2_changeMomenta_65 (by decide) ?_
        refine z_top ((show _ = mv (μ (6, t, 0)) (μ (7, t, 0)) i by rw [h6, hV i (by omega), hV (i + 1) (by omega)]; rfl)) ?_
        refine z_istS_n dX2_changeMomenta_66 rfl (by decide) rfl ?_
        refine z_aload_n dX2_changeMomenta_67 rfl rfl ?_
        refine zg_X2_momenta dX2_changeMomenta_68 tw_78 ?_
        refine z_iload_n dX2_changeMomenta_71 rfl rfl ?_
        refine z_dup2 dX2_changeMomenta_72 rfl rfl ?_
        refine z_iald dX2_changeMomenta_73 (fun _ _ => rfl) rfl (by omega) ?_
        refine z_iload_n dX2_changeMomenta_74 rfl rfl ?_
        refine z_isub dX2_changeMomenta_75 ?_
        refine z_iast dX2_changeMomenta_76 (fun _ _ => rfl) rfl (by omega) ?_
        refine z_aload_n dX2_changeMomenta_77 rfl rfl ?_
        refine zg_X2_momenta dX2_changeMomenta_78 tw_78 ?_
        refine z_iload_n dX2_changeMomenta_81 rfl rfl ?_
        refine z_iconst (v := 1) dX2_changeMomenta_82 (by decide) ?_
        refine z_iadd dX2_changeMomenta_83 ?_
        refine z_top ((nI_1 i)) ?_
        refine z_dup2 dX2_changeMomenta_84 rfl rfl ?_
        refine z_iald dX2_changeMomenta_85 (fun _ _ => rfl) rfl (show i + 1 < 12 by omega) ?_
        refine z_iload_n dX2_changeMomenta_86 rfl rfl ?_
        refine z_iadd dX2_changeMomenta_87 ?_
        refine z_iast dX2_changeMomenta_88 (fun _ _ => rfl) rfl (show i + 1 < 12 by omega) ?_
        refine z_incS dX2_changeMomenta_89 rfl (inc1 _) (by decide) rfl ?_
        refine z_goto (tgt := 36) dX2_changeMomenta_92 (by decide) ?_
        refine ih (i + 1) _ _ (by omega) (by omega) ((ho.put (by simp) _).put (by simp) _) (by simpa [st] using hV) ?_
        rw [st_eq, st_eq, h7]
        exact momB_s _ _ i
  have ini : ∀ (f i : Nat), i ≤ n → n < i + f → Z K 3 "DyeTank$Tank" prog_4_method_26_code 4 2 [zR (5, t, 0), zI (nI i), zN, zN] [] (st μ (16, t, 0) (fun j => if j < i then vel (μ (7, t, 0)) j else μ (16, t, 0) j)) := by
    intro f
    induction f with
    | zero => intro i h1 h2; exact absurd ‹_ < _ + 0› (by omega)
    | succ f ih =>
      intro i h1 h2
      refine z_iload_n dX2_changeMomenta_2 rfl rfl ?_
      refine z_aload_n dX2_changeMomenta_3 rfl rfl ?_
      refine zg_X2_rings dX2_changeMomenta_4 tw_70 ?_
      refine z_top ((show _ = nI n by simpa [st] using hn)) ?_
      refine z_icmp_ge (tgt := 27) dX2_changeMomenta_7 (by decide) (fun hb => ?_) (fun hb => ?_)
      · have hb := nle hb
        have e : i = n := by omega
        subst e
        refine z_aload_n dX2_changeMomenta_27 rfl rfl ?_
        refine zg_X2_rings dX2_changeMomenta_28 tw_70 ?_
        refine z_top ((show _ = nI i by simpa [st] using hn)) ?_
        refine z_iconst (v := 1) dX2_changeMomenta_31 (by decide) ?_
        refine z_isub dX2_changeMomenta_32 ?_
        refine z_top ((show nI i - nI 1 = nI (i - 1) from pk_sub (by omega))) ?_
        refine z_istS_n dX2_changeMomenta_33 rfl (by decide) rfl ?_
        refine z_iconst (v := 0) dX2_changeMomenta_34 (by decide) ?_
        refine z_istS_n dX2_changeMomenta_35 rfl (by decide) rfl ?_
        refine mid i 0 _ _ (by omega) (by omega) (zoff.rf.put (by simp) _) ?_ ?_
        · intro j hj
          rw [st_eq, if_pos hj]
        · rw [momB_0]
          simp [st]
      · have hb := nnle hb
        refine z_aload_n dX2_changeMomenta_10 rfl rfl ?_
        refine zg_X2_speeds dX2_changeMomenta_11 tw_88 ?_
        refine z_iload_n dX2_changeMomenta_14 rfl rfl ?_
        refine z_aload_n dX2_changeMomenta_15 rfl rfl ?_
        refine z_iload_n dX2_changeMomenta_16 rfl rfl ?_
        refine z_cVi (c_velocityOf _ t ht i (by omega)) q_X2_velocityOf tw_208 dX2_changeMomenta_17 rfl rfl rfl (by omega) (Nat.le_of_ble_eq_true rfl) ?_
        refine z_top ((show _ = vel (μ (7, t, 0)) i by simp [st])) ?_
        refine z_iast dX2_changeMomenta_20 (fun _ _ => rfl) rfl (by omega) ?_
        refine z_incS dX2_changeMomenta_21 rfl (inc1 _) (by decide) rfl ?_
        refine z_goto (tgt := 2) dX2_changeMomenta_24 (by decide) ?_
        refine z_mu ?_ (ih (i + 1) (by omega) (by omega))
        rw [st_upd, pre_upd rfl]
  refine z_ls (ls' := [zR (5, t, 0), zN, zN, zN]) rfl ?_
  refine z_iconst (v := 0) dX2_changeMomenta_0 (by decide) ?_
  refine z_istS_n dX2_changeMomenta_1 rfl (by decide) rfl ?_
  refine z_mu ?_ (ini (n + 1) 0 (by omega) (by omega))
  rw [pre_0, st_self]
theorem c_turn (μ : zM) (t n : Nat) (ht : t < 4) (hn : μ (5, t, 0) 0 = nI n) (hn2 : 2 ≤ n) (hn12 : n ≤ 12) : zCv yX2_turn prog_4_method_25_code 2 (none : Option Jvm.ClassFile.FieldType) 4 [zR (5, t, 0)] μ (fun μ' => zoff [(7, t, 0), (8, t, 0), (16, t, 0), (17, t, 0)] μ μ' ∧ μ' (7, t, 0) = mom (μ (6, t, 0)) (μ (7, t, 0)) n ∧ μ' (8, t, 0) = ang (μ (6, t, 0)) (μ (7, t, 0)) (μ (8, t, 0)) n ∧ (∀ j, j < n → μ' (16, t, 0) j = vel (mom (μ (6, t, 0)) (μ (7, t, 0)) n) j) ∧ (∀ j, j < n → μ' (17, t, 0) j = psh (μ (6, t, 0)) (mom (μ (6, t, 0)) (μ (7, t, 0)) n) j)) := by
  refine zCt.of "DyeTank$Tank" rfl (by decide +kernel) rfl (Nat.le_of_ble_eq_true rfl) (fun K hR => ?_)
  have v5 := zv_5 t ht
  have v6 := zv_6 t ht
  have v7 := zv_7 t ht
  have v8 := zv_8 t ht
  have v9 := zv_9 t ht
  have v10 := zv_10 t ht
  have v12 := zv_12 t ht
  have v16 := zv_16 t ht
  have v17 := zv_17 t ht
  have v18 := zv_18 t ht
  have loop : ∀ (f i : Nat) (μ' : zM), i ≤ n → n < i + f → zoff [(7, t, 0), (8, t, 0), (16, t, 0), (17, t, 0)] μ μ' → μ' (7, t, 0) = mom (μ (6, t, 0)) (μ (7, t, 0)) n → μ' (8, t, 0) = (fun j => if j < i then fmd (μ (8, t, 0) j + vel (mom (μ (6, t, 0)) (μ (7, t, 0)) n) j) 3600 else μ (8, t, 0) j) → (∀ j, j < i → μ' (16, t, 0) j = vel (mom (μ (6, t, 0)) (μ (7, t, 0)) n) j) → (∀ j, j < i → μ' (17, t, 0) j = psh (μ (6, t, 0)) (mom (μ (6, t, 0)) (μ (7, t, 0)) n) j) → Z K 4 "DyeTank$Tank" prog_4_method_25_code 2 6 [zR (5, t, 0), zI (nI i)] [] μ' := by
    intro f
    induction f with
    | zero => intro i μ' h1 h2 h3 h4 h5 h6 h7; exact absurd ‹_ < _ + 0› (by omega)
    | succ f ih =>
      intro i μ' h1 h2 ho h7 h8 h16 h17
      have h6 := ho.at (6, t, 0)
      have hr := ho.at (5, t, 0)
      refine z_iload_n dX2_turn_6 rfl rfl ?_
      refine z_aload_n dX2_turn_7 rfl rfl ?_
      refine zg_X2_rings dX2_turn_8 tw_70 ?_
      refine z_top ((show _ = nI n by rw [hr]; exact hn)) ?_
      refine z_icmp_ge (tgt := 67) dX2_turn_11 (by decide) (fun hb => ?_) (fun hb => ?_)
      · have hb := nle hb
        have e : i = n := by omega
        subst e
        refine z_vret hR dX2_turn_67 (⟨rfl, ho, h7, by rw [h8]; rfl, h16, h17⟩)
      · have hb := nnle hb
        refine z_aload_n dX2_turn_14 rfl rfl ?_
        refine zg_X2_speeds dX2_turn_15 tw_88 ?_
        refine z_iload_n dX2_turn_18 rfl rfl ?_
        refine z_aload_n dX2_turn_19 rfl rfl ?_
        refine z_iload_n dX2_turn_20 rfl rfl ?_
        refine z_cVi (c_velocityOf _ t ht i (by omega)) q_X2_velocityOf tw_208 dX2_turn_21 rfl rfl rfl (by omega) (Nat.le_of_ble_eq_true rfl) ?_
        refine z_top ((show _ = vel (mom (μ (6, t, 0)) (μ (7, t, 0)) n) i by rw [h7])) ?_
        refine z_iast dX2_turn_24 (fun _ _ => rfl) rfl (by omega) ?_
        refine z_aload_n dX2_turn_25 rfl rfl ?_
        refine zg_X2_pushes dX2_turn_26 tw_89 ?_
        refine z_iload_n dX2_turn_29 rfl rfl ?_
        refine z_aload_n dX2_turn_30 rfl rfl ?_
        refine z_iload_n dX2_turn_31 rfl rfl ?_
        refine z_cVi (c_pushOf _ t ht i (by omega)) q_X2_pushOf tw_285 dX2_turn_32 rfl rfl rfl (by omega) (Nat.le_of_ble_eq_true rfl) ?_
        refine z_top ((show _ = psh (μ (6, t, 0)) (mom (μ (6, t, 0)) (μ (7, t, 0)) n) i by simp [st, h6, h7])) ?_
        refine z_iast dX2_turn_35 (fun _ _ => rfl) rfl (by omega) ?_
        refine z_aload_n dX2_turn_36 rfl rfl ?_
        refine zg_X2_angles dX2_turn_37 tw_80 ?_
        refine z_iload_n dX2_turn_40 rfl rfl ?_
        refine z_aload_n dX2_turn_41 rfl rfl ?_
        refine zg_X2_angles dX2_turn_42 tw_80 ?_
        refine z_iload_n dX2_turn_45 rfl rfl ?_
        refine z_iald dX2_turn_46 (fun _ _ => rfl) rfl (by omega) ?_
        refine z_aload_n dX2_turn_47 rfl rfl ?_
        refine zg_X2_speeds dX2_turn_48 tw_88 ?_
        refine z_iload_n dX2_turn_51 rfl rfl ?_
        refine z_iald dX2_turn_52 (fun _ _ => rfl) rfl (by omega) ?_
        refine z_iadd dX2_turn_53 ?_
        refine z_top ((show _ = μ (8, t, 0) i + vel (mom (μ (6, t, 0)) (μ (7, t, 0)) n) i by simp [st, upd, h8])) ?_
        refine z_sipush (v := 3600) dX2_turn_54 (by decide) ?_
        refine z_cSi (c_floorMod _ _ _ (by decide)) q_J9_floorMod_7cf53 tw_286 dX2_turn_57 rfl rfl (by omega) (Nat.le_of_ble_eq_true rfl) ?_
        refine z_iast dX2_turn_60 (fun _ _ => rfl) rfl (by omega) ?_
        refine z_incS dX2_turn_61 rfl (inc1 _) (by decide) rfl ?_
        refine z_goto (tgt := 6) dX2_turn_64 (by decide) ?_
        refine ih (i + 1) _ (by omega) (by omega) (((ho.put (by simp) _).put (by simp) _).put (by simp) _) (by simp [st, h7]) ?_ ?_ ?_
        · simp [st]
          rw [h8]
          exact pre_upd rfl
        · simp only [st_ne _ _ (show ((16, t, 0) : zA) ≠ (8, t, 0) by simp), st_ne _ _ (show ((16, t, 0) : zA) ≠ (17, t, 0) by simp), st_eq]
          exact pre_up rfl h16
        · simp only [st_ne _ _ (show ((17, t, 0) : zA) ≠ (8, t, 0) by simp), st_ne _ _ (show ((17, t, 0) : zA) ≠ (16, t, 0) by simp), st_eq]
          exact pre_up rfl h17
  refine z_ls (ls' := [zR (5, t, 0), zN]) rfl ?_
  refine z_aload_n dX2_turn_0 rfl rfl ?_
  refine z_cVv (c_changeMomenta μ t n ht hn hn2 hn12) q_X2_changeMomenta tw_281 dX2_turn_1 rfl rfl rfl (by omega) (Nat.le_of_ble_eq_true rfl) (fun μ1 hh => ?_)
  obtain ⟨ho, h7⟩ := hh
  refine z_iconst (v := 0) dX2_turn_4 (by decide) ?_
  refine z_istS_n dX2_turn_5 rfl (by decide) rfl ?_
  refine loop (n + 1) 0 μ1 (by omega) (by omega) (ho.sub (by simp)) h7 ?_ (fun j hj => absurd hj (by omega)) (fun j hj => absurd hj (by omega))
  rw [ho.at (8, t, 0)]
  exact pre_0.symm
