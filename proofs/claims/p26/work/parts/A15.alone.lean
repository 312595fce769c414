/-! without pushes and mixing dyes only turn: alone() of the law -/
theorem fmd_int {x : Int32} {m : Nat} (hm0 : 0 < m) (hm : m < 2 ^ 30) : (fmd x (nI m)).toInt = x.toInt % (m : Int) := by
  have e2 := nI_toInt (n := m) (by omega)
  have hp : 0 < (nI m).toInt := by rw [e2]; omega
  obtain ⟨h1, h2⟩ := rem_rng x hm0 (show m < 2 ^ 31 by omega)
  have hr := rem_int (x := x) hp
  rw [e2] at hr
  have e3 : x.toInt % (m : Int) = (x.toInt.tmod (m : Int)) % (m : Int) := by
    rw [Int.tmod_def, Int.sub_mul_emod_self_left]
  rw [fmd_mod hp]
  rw [← hr] at e3
  generalize x - x / nI m * nI m = R at h1 h2 e3
  rw [e3]
  by_cases hR : R < 0
  · rw [if_pos hR]
    rw [Int32.lt_iff_toInt_lt, Int32.toInt_zero] at hR
    rw [Int32.toInt_add, e2, Int.bmod_eq_of_le (by omega) (by omega)]
    have : R.toInt % (m : Int) = (R.toInt + m) % (m : Int) := (Int.add_emod_right _ _).symm
    rw [this, Int.emod_eq_of_lt (by omega) (by omega)]
  · rw [if_neg hR]
    rw [Int32.lt_iff_toInt_lt, Int32.toInt_zero] at hR
    rw [Int.emod_eq_of_lt (by omega) (by omega)]
theorem div150 (x : Int32) : -14316558 ≤ (x / 150).toInt ∧ (x / 150).toInt ≤ 14316557 := by
  have hx := x.le_toInt
  have hx2 := x.toInt_lt
  rw [Int32.toInt_div_of_ne_right _ _ (by decide), show (150 : Int32).toInt = 150 by decide]
  rcases Int.le_total 0 x.toInt with h | h
  · rw [Int.tdiv_eq_ediv_of_nonneg h]
    omega
  · have := Int.neg_tdiv (-x.toInt) 150
    rw [Int.neg_neg] at this
    rw [this, Int.tdiv_eq_ediv_of_nonneg (by omega)]
    omega
theorem cel_int (a : rw) (r : Nat) {s : Nat} (hs : s < 24) : ((cel a r (nI s) : Nat) : Int) = ((s : Int) - (aA a r / 150).toInt) % 24 := by
  obtain ⟨h1, h2⟩ := cel_eq a r (nI s)
  have h3 := div150 (aA a r)
  have e := congrArg Int32.toInt h2
  rw [nI_toInt (by omega)] at e
  have h4 := fmd_int (x := nI s - aA a r / 150) (m := 24) (by omega) (by omega)
  have h5 : (fmd (nI s - aA a r / 150) (nI 24)).toInt = (fmd (nI s - aA a r / 150) 24).toInt := rfl
  rw [← e, ← h5, h4, Int32.toInt_sub, nI_toInt (by omega), Int.bmod_eq_of_le (by omega) (by omega)]
  rfl
theorem clP_0 (S P : Nat → Int32) (r : Nat) (h : S 5 = 0) : psh S P r = 0 := by
  unfold psh
  rw [h, Int32.zero_mul]
  decide
theorem dyf_0 (D A : Nat → Int32) (n : Nat) {x : Nat → Int32} (h : ∀ r, r < n → x r = 0) (i : Nat) : dyf D A n x i = D i := by
  unfold dyf
  rw [sm_zero n (fun r hr => by rw [h r hr]; unfold rmv; rw [if_pos rfl, if_pos rfl]; rfl), Int32.add_zero]
theorem mixF_no (n : Nat) (f : Nat → Int32) (i : Nat) : mixF 0 n f i = f i := by
  have e : ∀ a b, mxb 0 a b = 0 := fun a b => by
    unfold mxb
    rw [show (0 : Int32).toInt64 = 0 by decide, Int64.mul_zero]
    decide
  unfold mixF
  rw [e, e]
  split
  · exact Int32.sub_zero _
  · split
    · exact Int32.add_zero _
    · rfl
theorem still {a : rw} (hF : Full a) (h5 : aS a 5 = 0) (h6 : aS a 6 = 0) {c i : Nat} (hc : c < 3) (hi : i < 576) : aD (tickF a) c i = aD a c i := by
  have hn := Full_n hF
  rw [tick_D (by omega) hn.2 (Full_K hF).2 hc hi, h6, mixF_no, dyf_0 _ _ _ (fun r _ => clP_0 _ _ r h5)]
theorem still_it {a : rw} (hF : Full a) {t : Nat} (h1 : a 1 = nI t) (h5 : aS a 5 = 0) (h6 : aS a 6 = 0) {c i : Nat} (hc : c < 3) (hi : i < 576) : ∀ k, k ≤ 1000 → t + k ≤ 100000 → aD (itF k a) c i = aD a c i
  | 0, _, _ => rfl
  | k + 1, hk, ht => by
    have hFk := Full_its hF h1 (k := k) (by omega) (by omega)
    have e5 : aS (itF k a) 5 = 0 := (itF_lo a (k := 7) (by omega) (by omega) k).trans h5
    have e6 : aS (itF k a) 6 = 0 := (itF_lo a (k := 8) (by omega) (by omega) k).trans h6
    exact (still hFk e5 e6 hc hi).trans (still_it hF h1 h5 h6 hc hi k (by omega) (by omega))
/-- a sector that went with its ring is the same cell -/
theorem turn_cel {b c : rw} {r k y : Nat} (hy : fmd (aA c r / 150 - aA b r / 150) 24 = nI y) (hy24 : y < 24) : cel c r (nI ((k + y) % 24)) = cel b r (nI (k % 24)) := by
  have e1 := cel_int c r (s := (k + y) % 24) (Nat.mod_lt _ (by omega))
  have e2 := cel_int b r (s := k % 24) (Nat.mod_lt _ (by omega))
  have hC := div150 (aA c r)
  have hB := div150 (aA b r)
  have e3 := congrArg Int32.toInt hy
  have h5 : (fmd (aA c r / 150 - aA b r / 150) (nI 24)).toInt = (fmd (aA c r / 150 - aA b r / 150) 24).toInt := rfl
  rw [nI_toInt (by omega), ← h5, fmd_int (by omega) (by omega), Int32.toInt_sub, Int.bmod_eq_of_le (by omega) (by omega)] at e3
  omega
set_option maxRecDepth 100000 in
theorem k_alone {μ : zM} {a : rw} {S : Nat → Option rw} {t : Nat} (h : OK μ a S 0) (hw : Lw a t) (ht : t ≤ 90000) (v : Int32) (E : xE) : xCs yL_alone method_8_code 9 (some .boolean) 8 1 48 [zR (0, 0, 0), zI v] μ E (fun μ' E' => E' = E ∧ ∃ S', OK μ' a S' 0) := by
  refine xCt.of "DyeTankLaw" rfl (by decide +kernel) rfl (Nat.le_of_ble_eq_true rfl) (fun K hR => ?_)
  have hF := h.2.1
  obtain ⟨hn2, hn12⟩ := Full_n hF
  have hIB := Full_IB hF
  refine j_ls (ls' := [zR (0, 0, 0), zI v, zN, zN, zN, zN, zN, zN, zN]) rfl ?_
  refine j_aload_n dL_alone_0 rfl rfl ?_
  refine j_iconst (v := 0) dL_alone_1 (by decide) ?_
  refine j_cVs (g_save h (i := 0) (by omega)) q_X3_save tw_437 dL_alone_2 rfl rfl rfl (by omega) (Nat.le_of_ble_eq_true rfl) (by omega) (by omega) (fun μ1 w1 ⟨ew, h1⟩ => ?_) zv_0
  subst ew
  refine j_istore_n dL_alone_5 rfl (by decide) rfl ?_
  refine j_aload_n dL_alone_6 rfl rfl ?_
  refine j_iconst (v := 1) dL_alone_7 (by decide) ?_
  refine j_cVi (o_state h1 1) q_X3_state tw_196 dL_alone_8 rfl rfl rfl (by omega) (Nat.le_of_ble_eq_true rfl) (by omega) (by omega) ?_ zv_0
  refine j_top ((st_1.trans hIB.1)) ?_
  generalize hn : rN a = n at hn2 hn12
  have t5 : takesP (nI 5) 0 := Or.inr (Or.inr (Or.inl ⟨rfl, by decide⟩))
  have t6 : takesP (nI 6) 0 := Or.inr (Or.inr (Or.inr ⟨rfl, by decide⟩))
  refine j_istore_n dL_alone_11 rfl (by decide) rfl ?_
  refine j_aload_n dL_alone_12 rfl rfl ?_
  refine j_iconst (v := 5) dL_alone_13 (by decide) ?_
  refine j_iconst (v := 0) dL_alone_14 (by decide) ?_
  refine j_cVs (g_set h1 (j := 5) (by omega) t5) q_X3_set tw_380 dL_alone_15 rfl rfl rfl (by omega) (Nat.le_of_ble_eq_true rfl) (by omega) (by omega) (fun μ2 w2 h2 => ?_) zv_0
  refine j_pop dL_alone_18 rfl ?_
  refine j_aload_n dL_alone_19 rfl rfl ?_
  refine j_bipush (v := 6) dL_alone_20 (by decide) ?_
  refine j_iconst (v := 0) dL_alone_22 (by decide) ?_
  refine j_cVs (g_set h2 (j := 6) (by omega) t6) q_X3_set tw_380 dL_alone_23 rfl rfl rfl (by omega) (Nat.le_of_ble_eq_true rfl) (by omega) (by omega) (fun μ3 w3 h3 => ?_) zv_0
  refine j_pop dL_alone_26 rfl ?_
  refine j_iload_n dL_alone_27 rfl rfl ?_
  refine j_iload_n dL_alone_28 rfl rfl ?_
  refine j_cSi (c_up _ (nI n) (nI_ne0 (by omega) (by omega))) q_L_up tw_189 dL_alone_29 rfl rfl (by omega) (Nat.le_of_ble_eq_true rfl) (by omega) (by omega) ?_
  obtain ⟨r, hr, er⟩ := up_ex v (m := n) (by omega) (by omega)
  refine j_top (er) ?_
  obtain ⟨b, hb⟩ : ∃ b, b = upd (upd a (2 + 5) 0) (2 + 6) 0 := ⟨_, rfl⟩
  rw [← hb] at h3
  have lo : ∀ k, k ≠ 7 → k ≠ 8 → b k = a k := fun k h7 h8 => by
    rw [hb]
    unfold upd
    rw [if_neg (by omega), if_neg (by omega)]
  have b5 : aS b 5 = 0 := by
    rw [hb]
    show upd (upd a (2 + 5) 0) (2 + 6) 0 (2 + 5) = 0
    unfold upd
    rw [if_neg (by omega), if_pos rfl]
  have b6 : aS b 6 = 0 := by
    rw [hb]
    show upd (upd a (2 + 5) 0) (2 + 6) 0 (2 + 6) = 0
    exact if_pos rfl
  have enb : rN b = n := (rN_up (lo 0 (by omega) (by omega))).trans hn
  have hFb := h3.2.1
  have hb1 : b 1 = nI t := (lo 1 (by omega) (by omega)).trans hw.1
  refine j_istore dL_alone_32 (by decide) rfl ?_
  refine j_aload_n dL_alone_34 rfl rfl ?_
  refine j_iload dL_alone_35 rfl ?_
  refine j_iconst (v := 2) dL_alone_37 (by decide) ?_
  refine j_cVi (o_ring h3 _ _) q_X3_ring tw_228 dL_alone_38 rfl rfl rfl (by omega) (Nat.le_of_ble_eq_true rfl) (by omega) (by omega) ?_ zv_0
  refine j_top ((rv_ang enb hr hn12)) ?_
  refine j_sipush (v := 150) dL_alone_41 (by decide) ?_
  refine j_idiv dL_alone_44 (by decide) ?_
  refine j_istore dL_alone_45 (by decide) rfl ?_
  refine j_bipush (v := 48) dL_alone_47 (by decide) ?_
  refine j_newI (N := 48) dL_alone_49 rfl (by decide) (by omega) (by omega) (fun q0 => ?_)
  refine j_astore dL_alone_51 (by decide) rfl ?_
  refine j_iconst (v := 0) dL_alone_53 (by decide) ?_
  refine j_istore dL_alone_54 (by decide) rfl ?_
  have l1 : ∀ (f k : Nat) (g : Nat → Int32), k ≤ 48 → 48 < k + f → (∀ j, j < k → g j = aD b 1 (rwi (j / 24) r + cel b r (nI (j % 24)))) → (∀ g : Nat → Int32, (∀ j, j < 48 → g j = aD b 1 (rwi (j / 24) r + cel b r (nI (j % 24)))) → Xj K 8 1 48 "DyeTankLaw" method_8_code 9 91 [zR (0, 0, 0), zI v, zI (a 1), zI (nI n), zI (nI r), zI (aA b r / 150), xR q0, zN, zN] [] μ3 ((q0, 48, g) :: E) 1 48) → Xj K 8 1 48 "DyeTankLaw" method_8_code 9 56 [zR (0, 0, 0), zI v, zI (a 1), zI (nI n), zI (nI r), zI (aA b r / 150), xR q0, zI (nI k), zN] [] μ3 ((q0, 48, g) :: E) 1 48 := by
    intro f
    induction f with
    | zero => intro k g h1 h2 h3 h4; exact absurd ‹_ < _ + 0› (by omega)
    | succ f ih =>
      intro k g hk1 hk2 hg hend
      refine j_iload dL_alone_56 rfl ?_
      refine j_bipush (v := 48) dL_alone_58 (by decide) ?_
      refine j_icmp_ge (tgt := 91) dL_alone_60 (by decide) (fun hd => ?_) (fun hd => ?_)
      · have hd := nle (a := 48) hd
        refine j_less (ls' := [zR (0, 0, 0), zI v, zI (a 1), zI (nI n), zI (nI r), zI (aA b r / 150), xR q0, zN, zN]) (by repeat' constructor) ?_
        exact hend g (fun j hj => hg j (by omega))
      · have hd := nnle (a := 48) hd
        refine j_aload dL_alone_63 rfl ?_
        refine j_iload dL_alone_65 rfl ?_
        refine j_aload_n dL_alone_67 rfl rfl ?_
        refine j_iconst (v := 1) dL_alone_68 (by decide) ?_
        refine j_iload dL_alone_69 rfl ?_
        refine j_bipush (v := 24) dL_alone_71 (by decide) ?_
        refine j_idiv dL_alone_73 (by decide) ?_
        refine j_top ((div_nI (i := k) (m := 24) (by omega) (by omega) (by omega))) ?_
        refine j_iload dL_alone_74 rfl ?_
        refine j_iload dL_alone_76 rfl ?_
        refine j_bipush (v := 24) dL_alone_78 (by decide) ?_
        refine j_irem dL_alone_80 (by decide) ?_
        refine j_top ((rem_nI (i := k) (m := 24) (by omega) (by omega) (by omega))) ?_
        refine j_cVi (o_dye h3 1 _ _ _) q_X3_dye tw_338 dL_alone_81 rfl rfl rfl (by omega) (Nat.le_of_ble_eq_true rfl) (by omega) (by omega) ?_ zv_0
        refine j_top ((rv_dye (c := 1) enb (by omega) (show k / 24 < 2 by omega) hr hn12 (Nat.mod_lt _ (by omega)))) ?_
        refine j_iast (k0 := 0) dL_alone_84 rfl rfl hd (by decide) ?_
        refine j_iinc dL_alone_85 rfl (inc1 _) (by decide) rfl ?_
        refine j_goto (tgt := 56) dL_alone_88 (by decide) ?_
        refine ih (k + 1) _ (by omega) (by omega) (fun j hj => ?_) hend
        unfold upd
        split
        · next e => rw [e]
        · exact hg j (by omega)
  refine l1 49 0 _ (by omega) (by omega) (fun j hj => by omega) (fun g hg => ?_)
  refine j_aload_n dL_alone_91 rfl rfl ?_
  refine j_iconst (v := 1) dL_alone_92 (by decide) ?_
  refine j_iload_n dL_alone_93 rfl rfl ?_
  refine j_iconst (v := 4) dL_alone_94 (by decide) ?_
  refine j_ishr dL_alone_95 ?_
  refine j_bipush (v := 20) dL_alone_96 (by decide) ?_
  refine j_cSi (c_up _ 20 (by decide)) q_L_up tw_189 dL_alone_98 rfl rfl (by omega) (Nat.le_of_ble_eq_true rfl) (by omega) (by omega) ?_
  obtain ⟨T, hT, eT⟩ := up_ex (v >>> (4 &&& 31)) (m := 20) (by omega) (by omega)
  refine j_top (eT) ?_
  refine j_iadd dL_alone_101 ?_
  refine j_top ((nI_add 1 T)) ?_
  refine j_cVs (g_tick h3 (M := 1 + T) hb1 (by omega) (by omega)) q_X3_tick tw_268 dL_alone_102 rfl rfl rfl (by omega) (Nat.le_of_ble_eq_true rfl) (by omega) (by omega) (fun μ4 w4 ⟨ew4, h4⟩ => ?_) zv_0
  refine j_pop dL_alone_105 rfl ?_
  obtain ⟨c, hc⟩ : ∃ c, c = itF (1 + T) b := ⟨_, rfl⟩
  rw [← hc] at h4
  have enc : rN c = n := by rw [hc, it_N, enb]
  have hst : ∀ i, i < 576 → aD c 1 i = aD b 1 i := fun i hi => by rw [hc]; exact still_it hFb hb1 b5 b6 (by omega) hi _ (by omega) (by omega)
  refine j_aload_n dL_alone_106 rfl rfl ?_
  refine j_iload dL_alone_107 rfl ?_
  refine j_iconst (v := 2) dL_alone_109 (by decide) ?_
  refine j_cVi (o_ring h4 _ _) q_X3_ring tw_228 dL_alone_110 rfl rfl rfl (by omega) (Nat.le_of_ble_eq_true rfl) (by omega) (by omega) ?_ zv_0
  refine j_top ((rv_ang enc hr hn12)) ?_
  obtain ⟨y, hy24, hy⟩ := fmd_ex (aA c r / 150 - aA b r / 150) (m := 24) (by omega) (by omega)
  refine j_sipush (v := 150) dL_alone_113 (by decide) ?_
  refine j_idiv dL_alone_116 (by decide) ?_
  refine j_iload dL_alone_117 rfl ?_
  refine j_isub dL_alone_119 ?_
  refine j_bipush (v := 24) dL_alone_120 (by decide) ?_
  refine j_irem dL_alone_122 (by decide) ?_
  refine j_bipush (v := 24) dL_alone_123 (by decide) ?_
  refine j_iadd dL_alone_125 ?_
  refine j_bipush (v := 24) dL_alone_126 (by decide) ?_
  refine j_irem dL_alone_128 (by decide) ?_
  refine j_top (((rem2 (aA c r / 150 - aA b r / 150) (m := 24) (by omega) (by omega)).trans hy)) ?_
  refine j_istore dL_alone_129 (by decide) rfl ?_
  refine j_iconst (v := 0) dL_alone_131 (by decide) ?_
  refine j_istore dL_alone_132 (by decide) rfl ?_
  have l2 : ∀ (f k : Nat), k ≤ 48 → 48 < k + f → Xj K 8 1 48 "DyeTankLaw" method_8_code 9 177 [zR (0, 0, 0), zI v, zI (a 1), zI (nI n), zI (nI r), zI (aA b r / 150), xR q0, zI (nI y), zN] [] μ4 ((q0, 48, g) :: E) 1 48 → Xj K 8 1 48 "DyeTankLaw" method_8_code 9 134 [zR (0, 0, 0), zI v, zI (a 1), zI (nI n), zI (nI r), zI (aA b r / 150), xR q0, zI (nI y), zI (nI k)] [] μ4 ((q0, 48, g) :: E) 1 48 := by
    intro f
    induction f with
    | zero => intro k h1 h2 h3; exact absurd ‹_ < _ + 0› (by omega)
    | succ f ih =>
      intro k hk1 hk2 hend
      refine j_iload dL_alone_134 rfl ?_
      refine j_bipush (v := 48) dL_alone_136 (by decide) ?_
      refine j_icmp_ge (tgt := 177) dL_alone_138 (by decide) (fun hd => ?_) (fun hd => ?_)
      · refine j_less (ls' := [zR (0, 0, 0), zI v, zI (a 1), zI (nI n), zI (nI r), zI (aA b r / 150), xR q0, zI (nI y), zN]) (by repeat' constructor) ?_
        exact hend
      · have hd := nnle (a := 48) hd
        refine j_aload_n dL_alone_141 rfl rfl ?_
        refine j_iconst (v := 1) dL_alone_142 (by decide) ?_
        refine j_iload dL_alone_143 rfl ?_
        refine j_bipush (v := 24) dL_alone_145 (by decide) ?_
        refine j_idiv dL_alone_147 (by decide) ?_
        refine j_top ((div_nI (i := k) (m := 24) (by omega) (by omega) (by omega))) ?_
        refine j_iload dL_alone_148 rfl ?_
        refine j_iload dL_alone_150 rfl ?_
        refine j_iload dL_alone_152 rfl ?_
        refine j_iadd dL_alone_154 ?_
        refine j_top ((nI_add k y)) ?_
        refine j_bipush (v := 24) dL_alone_155 (by decide) ?_
        refine j_irem dL_alone_157 (by decide) ?_
        refine j_top ((rem_nI (i := k + y) (m := 24) (by omega) (by omega) (by omega))) ?_
        refine j_cVi (o_dye h4 1 _ _ _) q_X3_dye tw_338 dL_alone_158 rfl rfl rfl (by omega) (Nat.le_of_ble_eq_true rfl) (by omega) (by omega) ?_ zv_0
        have hcl := (cel_eq b r (nI (k % 24))).1
        have g3 := rv_dye (s := (k + y) % 24) (c := 1) enc (by omega) (show k / 24 < 2 by omega) hr hn12 (Nat.mod_lt _ (by omega))
        rw [turn_cel hy hy24, hst _ (by unfold rwi; omega)] at g3
        refine j_top (g3) ?_
        refine j_aload dL_alone_161 rfl ?_
        refine j_iload dL_alone_163 rfl ?_
        refine j_iald (k0 := 0) dL_alone_165 rfl rfl hd (by decide) ?_
        refine j_icmp_eq (tgt := 171) dL_alone_166 (by decide) (fun _ => ?_) (fun h9 => absurd ((hg k hd).symm) h9)
        refine j_iinc dL_alone_171 rfl (inc1 _) (by decide) rfl ?_
        refine j_goto (tgt := 134) dL_alone_174 (by decide) ?_
        exact ih (k + 1) (by omega) (by omega) hend
  refine l2 49 0 (by omega) (by omega) ?_
  refine j_aload_n dL_alone_177 rfl rfl ?_
  refine j_iconst (v := 0) dL_alone_178 (by decide) ?_
  refine j_cVs (g_restore h4 (i := 0) (by omega) (putS_eq S 0 a)) q_X3_restore tw_450 dL_alone_179 rfl rfl rfl (by omega) (Nat.le_of_ble_eq_true rfl) (by omega) (by omega) (fun μ5 w5 ⟨ew5, h5⟩ => ?_) zv_0
  subst ew5
  refine j_iload_n dL_alone_182 rfl rfl ?_
  refine j_icmp_ne (tgt := 190) dL_alone_183 (by decide) (fun h9 => absurd h9 (fun q => q rfl)) (fun _ => ?_)
  refine j_iconst (v := 1) dL_alone_186 (by decide) ?_
  refine j_goto (tgt := 191) dL_alone_187 (by decide) ?_
  refine j_drop ?_
  refine j_bret hR dL_alone_191 (Or.inr rfl) (⟨rfl, rfl, _, h5⟩) (by omega) (by omega)
