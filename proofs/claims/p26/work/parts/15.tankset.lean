section ZCOPYT
variable {K : zK} {d nL pc : Nat} {own : String} {cc : ByteArray} {ls sk : List zV} {μ : zM}
theorem z_copyT {a1 : zA} {n1 idx : Nat} (dg : decode cc pc = .ok (.invokestatic idx, 3)) (hl0 : Cond.methodLink own idx arraycopyName ∈ zT) (h1 : ∀ G f, zent G a1 f = zarI G n1 f) (hn7 : 7 ≤ n1) (hr : 1 ≤ d ∧ zsum sk ≤ 8)
    (k : Z K d own cc nL (pc + 3) ls sk (st μ a1 (va_cpy (fun j => (ztab 40).getD j 0) (μ a1) 0 0 7))) (hv1 : a1 ∈ zcells := by assumption) : Z K d own cc nL pc ls (zI 7 :: zI 0 :: zR a1 :: zI 0 :: zR (40, 0, 0) :: sk) μ := by
  obtain ⟨G, p, l, e, R, s, m, args, below, meth, c, A, Q, ce, sl⟩ := K
  intro F H locs la hP hS hl
  obtain ⟨q1, hq1, hw1⟩ := z_at (G := G) μ hv1
  rw [h1 G] at hw1
  have hts := F.2.2.2.2.1
  have hK := F.2.2.2.2.2.1
  have hD := z_D (μ := μ) F.2.2.2.2.2.2.1 F.2.2.2.2.2.2.2.1
  obtain ⟨cs, r1, r2, r3, r4, r5, r6, r7⟩ := (F.2.2.2.2.2.2.2.2.1 40 (Or.inl rfl)).2
  have hcs : H[G.1 (40, 0, 0)]? = some cs := by rw [hS.2.1 _ (Array.getElem?_eq_some_iff.mp r1).1 r7]; exact r1
  have hc1 : H[G.1 a1]? = some (vp_cell (G.2.2 0) (n1, .inl (μ a1))) := hP q1 _ hw1
  intro T hT X
  obtain ⟨hobj, k0, hk0, cm0, hkk0⟩ := r2
  obtain ⟨-, k1, hk1, cm1, hkk1⟩ := (hK.2 0 _ rfl).1 n1 (fun j => .int (μ a1 j))
  have hget : ∀ i, i < 7 → cs.slots.getD (0 + i) .null = .int ((ztab 40).getD i 0) := fun i hi => by
    rw [Array.getD_eq_getD_getElem?, Nat.zero_add, r6 i hi]
    rfl
  obtain ⟨vm', X', step⟩ := X.arraycopy F.1 F.2.2.2.1 (hts _ hl0) (hts _ tw_66) (hts _ tw_65) (hts _ tw_4) (src := G.1 (40, 0, 0)) (dst := G.1 a1) (cs := cs) (cd := vp_cell (G.2.2 0) (n1, .inl (μ a1))) (srcPos := 0) (destPos := 0) (n := 7) (by rw [hT]; exact hcs) (by rw [hT]; exact hc1)
    hobj (fun _ h => by cases h) r3 (fun h => by cases h) hk0 hk1 hkk0 hkk1 (by rfl) (by decide) (by decide) (by decide)
    (by show ¬ (0 : Int) + 7 > (cs.slots.size : Int); omega)
    (by show ¬ (0 : Int) + 7 > ((arrV (G.2.2 0) n1 (fun j => .int (μ a1 j))).slots.size : Int); rw [arrV_size]; omega)
    (fun vm₁ _ i hi => by
      have h7 : (7 : Int32).toNatClampNeg = 7 := by decide
      rw [h7] at hi
      have := hget i hi
      refine ⟨?_, ?_⟩
      · show fits .int (cs.slots.getD (0 + i) .null) = true
        rw [this]
        rfl
      · show (T.setVm vm₁).takes cm1 (cs.slots.getD (0 + i) .null)
        rw [this]
        exact trivial)
    (g := F0 m pc la ((zI 7 :: zI 0 :: zR a1 :: zI 0 :: zR (40, 0, 0) :: sk).map (zc G.1))) rfl (hl.1.trans F.2.2.1.symm) (rest := sk.map (zc G.1)) rfl (by rw [F.2.1]; exact dg) (by have := F.2.2.2.2.2.2.2.2.2.2.2.1; omega) (by
      have h9 := F.2.2.2.2.2.2.2.2.2.2.2.2
      show 2 * 0 + _ + _ ≤ _
      rw [zsum_eq]
      have h8 : nativeFrameWords "java/lang/System" "arraycopy" 5 + 11 ≤ 32 := by decide +kernel
      have := hr.2
      have := hr.1
      omega)
  have e0 : cs.stretch 0 7 = (vp_cell (G.2.2 0) (7, .inl (fun j => (ztab 40).getD j 0))).stretch 0 7 := by
    unfold Cell.stretch
    apply List.map_congr_left
    intro i hi
    have hi' := List.mem_range.mp hi
    rw [hget i hi']
    show _ = (arrV (G.2.2 0) 7 (fun j => .int ((ztab 40).getD j 0))).slots.getD (0 + i) .null
    rw [Array.getD_eq_getD_getElem?, arrV_read _ _ (by omega), Nat.zero_add]
    rfl
  have e1 : copied cs (vp_cell (G.2.2 0) (n1, .inl (μ a1))) 0 0 7 = vp_cell (G.2.2 0) (n1, .inl (va_cpy (fun j => (ztab 40).getD j 0) (μ a1) 0 0 7)) := by
    show (vp_cell (G.2.2 0) (n1, .inl (μ a1))).storeRun 0 (cs.stretch 0 7) = _
    rw [e0]
    exact va_copied (fun z => Value.int z) (G.2.2 0) (G.2.2 0) (n0 := 7) (sp := 0) (dp := 0) (n := 7) _ _ (by decide)
  rw [e1] at X' step
  have hl1 : G.1 a1 < H.size := (Array.getElem?_eq_some_iff.mp hc1).1
  have hheap : ((T.setVm vm').setCell (G.1 a1) (vp_cell (G.2.2 0) (n1, .inl (va_cpy (fun j => (ztab 40).getD j 0) (μ a1) 0 0 7)))).heap = H.setIfInBounds (G.1 a1) (vp_cell (G.2.2 0) (n1, .inl (va_cpy (fun j => (ztab 40).getD j 0) (μ a1) 0 0 7))) := by rw [← hT]; rfl
  have oq : ∀ q : Nat, q ≠ G.1 a1 → (H.setIfInBounds (G.1 a1) (vp_cell (G.2.2 0) (n1, .inl (va_cpy (fun j => (ztab 40).getD j 0) (μ a1) 0 0 7))))[q]? = H[q]? := fun q hq => by simp [Array.getElem?_setIfInBounds, Ne.symm hq]
  have hPn := hP.set hD hw1 (e := .inl (G.2.2 0, n1, .inl (va_cpy (fun j => (ztab 40).getD j 0) (μ a1) 0 0 7))) (show (H.setIfInBounds (G.1 a1) _)[G.1 a1]? = some _ by simp [Array.getElem?_setIfInBounds, hl1]) oq
  have e : ((zws G μ).set q1 (G.1 a1, zarI G n1 (va_cpy (fun j => (ztab 40).getD j 0) (μ a1) 0 0 7))) = zws G (st μ a1 (va_cpy (fun j => (ztab 40).getD j 0) (μ a1) 0 0 7)) := by rw [← h1 G]; exact z_set hq1
  have hP2 : va_P G.2.1 vwCl ((zws G μ).set q1 (G.1 a1, zarI G n1 (va_cpy (fun j => (ztab 40).getD j 0) (μ a1) 0 0 7))) _ := hPn
  rw [e] at hP2
  obtain ⟨t, a2, b2⟩ := k F _ _ la hP2 ⟨by simp; exact hS.1, fun q g1 g2 => by
      rw [oq q (fun e => g2 (by rw [e]; exact hD.2 q1 _ hw1))]
      exact hS.2.1 q g1 g2, fun q hq => by
      rcases List.mem_append.mp hq with h | h
      · exact hS.2.2 q h
      · obtain ⟨z, -, hz⟩ := List.mem_map.mp h
        rw [← hz]
        exact hD.2 q1 _ hw1⟩ hl _ hheap X'
  exact ⟨t, step t a2, b2⟩
end ZCOPYT
theorem c_giveVelocity (μ : zM) (t r : Nat) (ht : t < 4) (hr : r < 12) (v : Int32) : zCv yX2_giveVelocity prog_4_method_9_code 3 (none : Option Jvm.ClassFile.FieldType) 2 [zR (5, t, 0), zI (nI r), zI v] μ (fun μ' => μ' = st μ (7, t, 0) (upd (μ (7, t, 0)) r (v * nI (2 * r + 1)))) := by
  refine zCt.of "DyeTank$Tank" rfl (by decide +kernel) rfl (Nat.le_of_ble_eq_true rfl) (fun K hR => ?_)
  have v5 := zv_5 t ht
  have v6 := zv_6 t ht
  have v7 := zv_7 t ht
  have v8 := zv_8 t ht
  have v9 := zv_9 t ht
  have v10 := zv_10 t ht
  have v12 := zv_12 t ht
  have v16 := zv_16 t ht
  have v17 := zv_17 t ht
  have v18 := zv_18 t ht
  refine z_ls (ls' := [zR (5, t, 0), zI (nI r), zI v]) rfl ?_
  refine z_aload_n dX2_giveVelocity_0 rfl rfl ?_
  refine zg_X2_momenta dX2_giveVelocity_1 tw_78 ?_
  refine z_iload_n dX2_giveVelocity_4 rfl rfl ?_
  refine z_iload_n dX2_giveVelocity_5 rfl rfl ?_
  refine z_iload_n dX2_giveVelocity_6 rfl rfl ?_
  refine z_cSi (c_weightOf μ r) q_X2_weightOf tw_212 dX2_giveVelocity_7 rfl rfl (by omega) (Nat.le_of_ble_eq_true rfl) ?_
  refine z_imul dX2_giveVelocity_10 ?_
  refine z_iast dX2_giveVelocity_11 (fun _ _ => rfl) rfl hr ?_
  refine z_vret hR dX2_giveVelocity_12 (⟨rfl, rfl⟩)
def gvl (a b : Int32) (n r : Nat) : Int32 := (a + (b - a) * nI r / nI (n - 1)) * nI (2 * r + 1)
theorem c_giveVelocities (μ : zM) (t n : Nat) (ht : t < 4) (hn : μ (5, t, 0) 0 = nI n) (hn2 : 2 ≤ n) (hn12 : n ≤ 12) (a b : Int32) : zCv yX2_giveVelocities prog_4_method_10_code 5 (none : Option Jvm.ClassFile.FieldType) 3 [zR (5, t, 0), zI a, zI b] μ (fun μ' => μ' = st μ (7, t, 0) (fun j => if j < n then gvl a b n j else μ (7, t, 0) j)) := by
  refine zCt.of "DyeTank$Tank" rfl (by decide +kernel) rfl (Nat.le_of_ble_eq_true rfl) (fun K hR => ?_)
  have v5 := zv_5 t ht
  have v6 := zv_6 t ht
  have v7 := zv_7 t ht
  have v8 := zv_8 t ht
  have v9 := zv_9 t ht
  have v10 := zv_10 t ht
  have v12 := zv_12 t ht
  have v16 := zv_16 t ht
  have v17 := zv_17 t ht
  have v18 := zv_18 t ht
  have loop : ∀ (f i : Nat), i ≤ n → n < i + f → Z K 3 "DyeTank$Tank" prog_4_method_10_code 5 14 [zR (5, t, 0), zI a, zI b, zI (nI (n - 1)), zI (nI i)] [] (st μ (7, t, 0) (fun j => if j < i then gvl a b n j else μ (7, t, 0) j)) := by
    intro f
    induction f with
    | zero => intro i h1 h2; exact absurd ‹_ < _ + 0› (by omega)
    | succ f ih =>
      intro i h1 h2
      refine z_iload dX2_giveVelocities_14 rfl ?_
      refine z_aload_n dX2_giveVelocities_16 rfl rfl ?_
      refine zg_X2_rings dX2_giveVelocities_17 tw_70 ?_
      refine z_top ((show _ = nI n by rw [st_ne _ _ (by simp)]; exact hn)) ?_
      refine z_icmp_ge (tgt := 45) dX2_giveVelocities_20 (by decide) (fun hb => ?_) (fun hb => ?_)
      · have hb := nle hb
        have e : i = n := by omega
        subst e
        refine z_vret hR dX2_giveVelocities_45 (⟨rfl, rfl⟩)
      · have hb := nnle hb
        refine z_aload_n dX2_giveVelocities_23 rfl rfl ?_
        refine z_iload dX2_giveVelocities_24 rfl ?_
        refine z_iload_n dX2_giveVelocities_26 rfl rfl ?_
        refine z_iload_n dX2_giveVelocities_27 rfl rfl ?_
        refine z_iload_n dX2_giveVelocities_28 rfl rfl ?_
        refine z_isub dX2_giveVelocities_29 ?_
        refine z_iload dX2_giveVelocities_30 rfl ?_
        refine z_imul dX2_giveVelocities_32 ?_
        refine z_iload_n dX2_giveVelocities_33 rfl rfl ?_
        refine z_idiv dX2_giveVelocities_34 (nI_ne0 (by omega) (by omega)) ?_
        refine z_iadd dX2_giveVelocities_35 ?_
        refine z_cVv (c_giveVelocity _ t i ht (by omega) _) q_X2_giveVelocity tw_379 dX2_giveVelocities_36 rfl rfl rfl (by omega) (Nat.le_of_ble_eq_true rfl) (fun μ2 hh => ?_)
        refine z_incS dX2_giveVelocities_39 rfl (inc1 _) (by decide) rfl ?_
        refine z_goto (tgt := 14) dX2_giveVelocities_42 (by decide) ?_
        refine z_mu ?_ (ih (i + 1) (by omega) (by omega))
        rw [hh, st_upd]
        congr 1
        exact pre_upd (f := gvl a b n) rfl
  refine z_ls (ls' := [zR (5, t, 0), zI a, zI b, zN, zN]) rfl ?_
  refine z_iconst (v := 1) dX2_giveVelocities_0 (by decide) ?_
  refine z_aload_n dX2_giveVelocities_1 rfl rfl ?_
  refine zg_X2_rings dX2_giveVelocities_2 tw_70 ?_
  refine z_top (hn) ?_
  refine z_iconst (v := 1) dX2_giveVelocities_5 (by decide) ?_
  refine z_isub dX2_giveVelocities_6 ?_
  refine z_top ((show nI n - nI 1 = nI (n - 1) from pk_sub (by omega))) ?_
  refine z_mmax dX2_giveVelocities_7 tw_221 ⟨by omega, Nat.le_of_ble_eq_true rfl⟩ ?_
  have hmx : (if (1 : Int32) < nI (n - 1) then nI (n - 1) else 1) = nI (n - 1) := by
    by_cases h : (1 : Int32) < nI (n - 1)
    · rw [if_pos h]
    · rw [if_neg h]
      have := nnlt (a := 1) h
      rw [show n - 1 = 1 by omega]
      rfl
  refine z_top (hmx) ?_
  refine z_istS_n dX2_giveVelocities_10 rfl (by decide) rfl ?_
  refine z_iconst (v := 0) dX2_giveVelocities_11 (by decide) ?_
  refine z_istS dX2_giveVelocities_12 (by decide) rfl ?_
  refine z_mu ?_ (loop (n + 1) 0 (by omega) (by omega))
  rw [pre_0, st_self]
/-- the rows of a tank that restarting and copying write -/
theorem c_startAgain (μ : zM) (t : Nat) (ht : t < 4) (n : Int32) : zCv yX2_startAgain prog_4_method_2_code 3 (none : Option Jvm.ClassFile.FieldType) 2 [zR (5, t, 0), zI n] μ (fun μ' => zoffK [5, 6, 7, 8, 9, 11] t μ μ' ∧ μ' (5, t, 0) 0 = n ∧ μ' (5, t, 0) 1 = 0 ∧ μ' (5, t, 0) 2 = 0 ∧ (∀ j, j < 7 → μ' (6, t, 0) j = (ztab 40).getD j 0) ∧ (∀ j, j < 12 → μ' (7, t, 0) j = 0) ∧ (∀ j, j < 12 → μ' (8, t, 0) j = 0) ∧ (∀ j, j < 3 → μ' (9, t, 0) j = 0) ∧ ∀ c, c < 3 → ∀ i, i < 576 → μ' (11, t, c) i = 0) := by
  refine zCt.of "DyeTank$Tank" rfl (by decide +kernel) rfl (Nat.le_of_ble_eq_true rfl) (fun K hR => ?_)
  have v5 := zv_5 t ht
  have v6 := zv_6 t ht
  have v7 := zv_7 t ht
  have v8 := zv_8 t ht
  have v9 := zv_9 t ht
  have v10 := zv_10 t ht
  have v12 := zv_12 t ht
  have v16 := zv_16 t ht
  have v17 := zv_17 t ht
  have v18 := zv_18 t ht
  refine z_ls (ls' := [zR (5, t, 0), zI n, zN]) rfl ?_
  refine z_aload_n dX2_startAgain_0 rfl rfl ?_
  refine z_iload_n dX2_startAgain_1 rfl rfl ?_
  refine zp_X2_rings dX2_startAgain_2 tw_70 ?_
  refine z_aload_n dX2_startAgain_5 rfl rfl ?_
  refine z_iconst (v := 0) dX2_startAgain_6 (by decide) ?_
  refine zp_X2_time dX2_startAgain_7 tw_72 ?_
  refine z_aload_n dX2_startAgain_10 rfl rfl ?_
  refine z_iconst (v := 0) dX2_startAgain_11 (by decide) ?_
  refine zp_X2_markerCount dX2_startAgain_12 tw_74 ?_
  refine z_getsN dX2_startAgain_15 ?_
  refine z_iconst (v := 0) dX2_startAgain_18 (by decide) ?_
  refine z_aload_n dX2_startAgain_19 rfl rfl ?_
  refine zg_X2_settings dX2_startAgain_20 tw_76 ?_
  refine z_iconst (v := 0) dX2_startAgain_23 (by decide) ?_
  refine z_bipush (v := 7) dX2_startAgain_24 (by decide) ?_
  refine z_copyT dX2_startAgain_26 tw_64 (fun _ _ => rfl) (by decide) ⟨by omega, Nat.le_of_ble_eq_true rfl⟩ ?_
  refine z_gen (fun μ' => zoffK [5, 6, 7, 8, 9, 11] t μ μ' ∧ μ' (5, t, 0) 0 = n ∧ μ' (5, t, 0) 1 = 0 ∧ μ' (5, t, 0) 2 = 0 ∧ (∀ j, j < 7 → μ' (6, t, 0) j = (ztab 40).getD j 0)) ⟨?_, by simp [st, upd], by simp [st, upd], by simp [st, upd], ?_⟩ (fun μ1 hh => ?_)
  · exact (((zoffK.rf.put (5, t, 0) _).put (5, t, 0) _).put (5, t, 0) _).put (6, t, 0) _
  · intro j hj
    rw [st_eq]
    unfold va_cpy
    rw [if_pos (by omega), Nat.zero_add, Nat.sub_zero]
  obtain ⟨o1, a0, a1, a2, a6⟩ := hh
  refine z_aload_n dX2_startAgain_29 rfl rfl ?_
  refine zg_X2_momenta dX2_startAgain_30 tw_78 ?_
  refine z_iconst (v := 0) dX2_startAgain_33 (by decide) ?_
  refine z_cSv (c_fill _ (7, t, 0) 12 v7 (fun _ _ => rfl) (by decide) 0) q_J7_fill_53178 tw_67 dX2_startAgain_34 rfl rfl (by omega) (Nat.le_of_ble_eq_true rfl) (fun μ2 h2' => ?_)
  refine z_aload_n dX2_startAgain_37 rfl rfl ?_
  refine zg_X2_angles dX2_startAgain_38 tw_80 ?_
  refine z_iconst (v := 0) dX2_startAgain_41 (by decide) ?_
  refine z_cSv (c_fill _ (8, t, 0) 12 v8 (fun _ _ => rfl) (by decide) 0) q_J7_fill_53178 tw_67 dX2_startAgain_42 rfl rfl (by omega) (Nat.le_of_ble_eq_true rfl) (fun μ3 h3 => ?_)
  refine z_aload_n dX2_startAgain_45 rfl rfl ?_
  refine zg_X2_totals dX2_startAgain_46 tw_82 ?_
  refine z_iconst (v := 0) dX2_startAgain_49 (by decide) ?_
  refine z_cSv (c_fill _ (9, t, 0) 3 v9 (fun _ _ => rfl) (by decide) 0) q_J7_fill_53178 tw_67 dX2_startAgain_50 rfl rfl (by omega) (Nat.le_of_ble_eq_true rfl) (fun μ4 h4 => ?_)
  have loop : ∀ (f i : Nat) (μ' : zM), i ≤ 3 → 3 < i + f → zoffK [11] t μ4 μ' → (∀ c, c < i → ∀ i, i < 576 → μ' (11, t, c) i = 0) → Z K 2 "DyeTank$Tank" prog_4_method_2_code 3 55 [zR (5, t, 0), zI n, zI (nI i)] [] μ' := by
    intro f
    induction f with
    | zero => intro i μ' h1 h2 h3 h4; exact absurd ‹_ < _ + 0› (by omega)
    | succ f ih =>
      intro i μ' h1 h2 ho hd
      refine z_iload_n dX2_startAgain_55 rfl rfl ?_
      refine z_iconst (v := 3) dX2_startAgain_56 (by decide) ?_
      refine z_icmp_ge (tgt := 76) dX2_startAgain_57 (by decide) (fun hb => ?_) (fun hb => ?_)
      · have hb := nle (a := 3) hb
        have e : i = 3 := by omega
        subst e
        have q7 := ho.at (7, t, 0)
        have q8 := ho.at (8, t, 0)
        have q9 := ho.at (9, t, 0)
        have q5 := ho.at (5, t, 0)
        have q6 := ho.at (6, t, 0)
        rw [h4] at q7 q8 q9 q5 q6
        rw [h3] at q7 q8 q5 q6
        rw [h2'] at q7 q5 q6
        refine z_vret hR dX2_startAgain_76 (⟨rfl, ?_, ?_, ?_, ?_, ?_, ?_, ?_, ?_, hd⟩)
        · refine zoffK.tr ?_ ho (by simp)
          rw [h4, h3, h2']
          exact ((o1.put (7, t, 0) _).put (8, t, 0) _).put (9, t, 0) _
        · rw [q5]; simp [st, a0]
        · rw [q5]; simp [st, a1]
        · rw [q5]; simp [st, a2]
        · intro j hj
          rw [q6]
          simp only [st_ne _ _ (show ((6, t, 0) : zA) ≠ (9, t, 0) by simp), st_ne _ _ (show ((6, t, 0) : zA) ≠ (8, t, 0) by simp), st_ne _ _ (show ((6, t, 0) : zA) ≠ (7, t, 0) by simp)]
          exact a6 j hj
        · intro j hj
          rw [q7]
          simp [st, hj]
        · intro j hj
          rw [q8]
          simp [st, hj]
        · intro j hj
          rw [q9]
          simp [st, hj]
      · have hb := nnle (a := 3) hb
        have v11 := zv_11 t ht i hb
        refine z_aload_n dX2_startAgain_60 rfl rfl ?_
        refine zg_X2_dyes dX2_startAgain_61 tw_84 ?_
        refine z_iload_n dX2_startAgain_64 rfl rfl ?_
        refine z_ald10 dX2_startAgain_65 rfl hb ?_
        refine z_iconst (v := 0) dX2_startAgain_66 (by decide) ?_
        refine z_cSv (c_fill _ (11, t, i) 576 v11 (fun _ _ => rfl) (by decide) 0) q_J7_fill_53178 tw_67 dX2_startAgain_67 rfl rfl (by omega) (Nat.le_of_ble_eq_true rfl) (fun μ5 h5 => ?_)
        refine z_incS dX2_startAgain_70 rfl (inc1 _) (by decide) rfl ?_
        refine z_goto (tgt := 55) dX2_startAgain_73 (by decide) ?_
        refine ih (i + 1) μ5 (by omega) (by omega) (by rw [h5]; exact ho.put (11, t, i) _) ?_
        intro c hc j hj
        rw [h5]
        by_cases e : c = i
        · rw [e, st_eq]
          exact if_pos hj
        · rw [st_ne _ _ (by simp [e])]
          exact hd c (by omega) j hj
  refine z_iconst (v := 0) dX2_startAgain_53 (by decide) ?_
  refine z_istS_n dX2_startAgain_54 rfl (by decide) rfl ?_
  exact loop 4 0 μ4 (by omega) (by omega) zoffK.rf (fun c h => absurd h (by omega))
theorem c_markLike (μ : zM) (t u i : Nat) (ht : t < 4) (hu : u < 4) (hi : i < 6) (hne : t ≠ u) : zCv yX0_becomeLike prog_2_method_3_code 2 (none : Option Jvm.ClassFile.FieldType) 1 [zR (13, t, i), zR (13, u, i)] μ (fun μ' => zoff [(13, t, i), (14, t, i), (15, t, i)] μ μ' ∧ (∀ j, j < 5 → μ' (13, t, i) j = μ (13, u, i) j) ∧ (∀ j, j < 50 → μ' (14, t, i) j = μ (14, u, i) j) ∧ (∀ j, j < 50 → μ' (15, t, i) j = μ (15, u, i) j)) := by
  refine zCt.of "DyeTank$Marker" rfl (by decide +kernel) rfl (Nat.le_of_ble_eq_true rfl) (fun K hR => ?_)
  have v13 := zv_13 t ht i hi
  have v14 := zv_14 t ht i hi
  have v15 := zv_15 t ht i hi
  have w13 := zv_13 u hu i hi
  have w14 := zv_14 u hu i hi
  have w15 := zv_15 u hu i hi
  have hnu : u ≠ t := fun e => hne e.symm
  refine z_ls (ls' := [zR (13, t, i), zR (13, u, i)]) rfl ?_
  refine z_aload_n dX0_becomeLike_0 rfl rfl ?_
  refine z_aload_n dX0_becomeLike_1 rfl rfl ?_
  refine zg_X0_place dX0_becomeLike_2 tw_31 ?_
  refine zp_X0_place dX0_becomeLike_5 tw_31 ?_
  refine z_aload_n dX0_becomeLike_8 rfl rfl ?_
  refine z_aload_n dX0_becomeLike_9 rfl rfl ?_
  refine zg_X0_angle dX0_becomeLike_10 tw_33 ?_
  refine zp_X0_angle dX0_becomeLike_13 tw_33 ?_
  refine z_aload_n dX0_becomeLike_16 rfl rfl ?_
  refine z_aload_n dX0_becomeLike_17 rfl rfl ?_
  refine zg_X0_kept dX0_becomeLike_18 tw_35 ?_
  refine zp_X0_kept dX0_becomeLike_21 tw_35 ?_
  refine z_aload_n dX0_becomeLike_24 rfl rfl ?_
  refine z_aload_n dX0_becomeLike_25 rfl rfl ?_
  refine zg_X0_crossings dX0_becomeLike_26 tw_37 ?_
  refine zp_X0_crossings dX0_becomeLike_29 tw_37 ?_
  refine z_aload_n dX0_becomeLike_32 rfl rfl ?_
  refine z_aload_n dX0_becomeLike_33 rfl rfl ?_
  refine zg_X0_next dX0_becomeLike_34 tw_39 ?_
  refine zp_X0_next dX0_becomeLike_37 tw_39 ?_
  refine z_gen (fun μ' => ∃ f, μ' = st μ (13, t, i) f ∧ ∀ j, j < 5 → f j = μ (13, u, i) j) ⟨_, by simp only [st_upd]; rfl, ?_⟩ (fun μ1 hh => ?_)
  · intro j hj
    have h5 : j = 0 ∨ j = 1 ∨ j = 2 ∨ j = 3 ∨ j = 4 := by omega
    rcases h5 with rfl | rfl | rfl | rfl | rfl <;> simp [st, upd, hnu]
  obtain ⟨g, e1, hg⟩ := hh
  have q14 : μ1 (14, u, i) = μ (14, u, i) := by rw [e1]; exact st_ne _ _ (by simp)
  have q15 : μ1 (15, u, i) = μ (15, u, i) := by rw [e1]; exact st_ne _ _ (by simp)
  refine z_aload_n dX0_becomeLike_40 rfl rfl ?_
  refine zg_X0_places dX0_becomeLike_41 tw_40 ?_
  refine z_iconst (v := 0) dX0_becomeLike_44 (by decide) ?_
  refine z_aload_n dX0_becomeLike_45 rfl rfl ?_
  refine zg_X0_places dX0_becomeLike_46 tw_40 ?_
  refine z_iconst (v := 0) dX0_becomeLike_49 (by decide) ?_
  refine z_bipush (v := 50) dX0_becomeLike_50 (by decide) ?_
  refine z_copy dX0_becomeLike_52 tw_449 (fun _ _ => rfl) (fun _ _ => rfl) (sp := 0) (dp := 0) (n := 50) rfl rfl rfl (by decide) (by decide) ⟨by omega, Nat.le_of_ble_eq_true rfl⟩ ?_
  refine z_aload_n dX0_becomeLike_55 rfl rfl ?_
  refine zg_X0_angles dX0_becomeLike_56 tw_41 ?_
  refine z_iconst (v := 0) dX0_becomeLike_59 (by decide) ?_
  refine z_aload_n dX0_becomeLike_60 rfl rfl ?_
  refine zg_X0_angles dX0_becomeLike_61 tw_41 ?_
  refine z_iconst (v := 0) dX0_becomeLike_64 (by decide) ?_
  refine z_bipush (v := 50) dX0_becomeLike_65 (by decide) ?_
  refine z_copy dX0_becomeLike_67 tw_449 (fun _ _ => rfl) (fun _ _ => rfl) (sp := 0) (dp := 0) (n := 50) rfl rfl rfl (by decide) (by decide) ⟨by omega, Nat.le_of_ble_eq_true rfl⟩ ?_
  refine z_vret hR dX0_becomeLike_70 (⟨rfl, ?_, ?_, ?_, ?_⟩)
  · refine zoff.put (zoff.put ?_ (by simp) _) (by simp) _
    rw [e1]
    exact zoff.rf.put (by simp) _
  · intro j hj
    rw [st_ne _ _ (by simp), st_ne _ _ (by simp), e1, st_eq]
    exact hg j hj
  · intro j hj
    rw [st_ne _ _ (by simp), st_eq, q14]
    unfold va_cpy
    rw [if_pos (by omega)]
    congr 1
    omega
  · intro j hj
    rw [st_eq, st_ne _ _ (by simp), q15]
    unfold va_cpy
    rw [if_pos (by omega)]
    congr 1
    omega
theorem c_tankLike (μ : zM) (t u mk : Nat) (ht : t < 4) (hu : u < 4) (hne : t ≠ u) (hmk : μ (5, u, 0) 2 = nI mk) (hmk6 : mk ≤ 6) : zCv yX2_becomeLike prog_4_method_3_code 3 (none : Option Jvm.ClassFile.FieldType) 2 [zR (5, t, 0), zR (5, u, 0)] μ (fun μ' => zoffK [5, 6, 7, 8, 9, 11, 13, 14, 15] t μ μ' ∧ (∀ j, j < 3 → μ' (5, t, 0) j = μ (5, u, 0) j) ∧ (∀ j, j < 7 → μ' (6, t, 0) j = μ (6, u, 0) j) ∧ (∀ j, j < 12 → μ' (7, t, 0) j = μ (7, u, 0) j) ∧ (∀ j, j < 12 → μ' (8, t, 0) j = μ (8, u, 0) j) ∧ (∀ j, j < 3 → μ' (9, t, 0) j = μ (9, u, 0) j) ∧ (∀ c, c < 3 → ∀ i, i < 576 → μ' (11, t, c) i = μ (11, u, c) i) ∧ ∀ m, m < mk → (∀ j, j < 5 → μ' (13, t, m) j = μ (13, u, m) j) ∧ (∀ j, j < 50 → μ' (14, t, m) j = μ (14, u, m) j) ∧ (∀ j, j < 50 → μ' (15, t, m) j = μ (15, u, m) j)) := by
  refine zCt.of "DyeTank$Tank" rfl (by decide +kernel) rfl (Nat.le_of_ble_eq_true rfl) (fun K hR => ?_)
  have v5 := zv_5 t ht
  have v6 := zv_6 t ht
  have v7 := zv_7 t ht
  have v8 := zv_8 t ht
  have v9 := zv_9 t ht
  have v10 := zv_10 t ht
  have v12 := zv_12 t ht
  have v16 := zv_16 t ht
  have v17 := zv_17 t ht
  have v18 := zv_18 t ht
  have hnu : u ≠ t := fun e => hne e.symm
  have w5 := zv_5 u hu
  have w6 := zv_6 u hu
  have w7 := zv_7 u hu
  have w8 := zv_8 u hu
  have w9 := zv_9 u hu
  have w10 := zv_10 u hu
  have w12 := zv_12 u hu
  refine z_ls (ls' := [zR (5, t, 0), zR (5, u, 0), zN]) rfl ?_
  refine z_aload_n dX2_becomeLike_0 rfl rfl ?_
  refine z_aload_n dX2_becomeLike_1 rfl rfl ?_
  refine zg_X2_rings dX2_becomeLike_2 tw_70 ?_
  refine zp_X2_rings dX2_becomeLike_5 tw_70 ?_
  refine z_aload_n dX2_becomeLike_8 rfl rfl ?_
  refine z_aload_n dX2_becomeLike_9 rfl rfl ?_
  refine zg_X2_time dX2_becomeLike_10 tw_72 ?_
  refine zp_X2_time dX2_becomeLike_13 tw_72 ?_
  refine z_aload_n dX2_becomeLike_16 rfl rfl ?_
  refine z_aload_n dX2_becomeLike_17 rfl rfl ?_
  refine zg_X2_markerCount dX2_becomeLike_18 tw_74 ?_
  refine zp_X2_markerCount dX2_becomeLike_21 tw_74 ?_
  refine z_gen (fun μ' => ∃ f, μ' = st μ (5, t, 0) f ∧ ∀ j, j < 3 → f j = μ (5, u, 0) j) ⟨_, by simp only [st_upd]; rfl, ?_⟩ (fun μ1 hh => ?_)
  · intro j hj
    have h5 : j = 0 ∨ j = 1 ∨ j = 2 := by omega
    rcases h5 with rfl | rfl | rfl <;> simp [st, upd, hnu]
  obtain ⟨g, e1, hg⟩ := hh
  have cp : ∀ (f h : Nat → Int32) (n j : Nat), j < n → va_cpy f h 0 0 n j = f j := by
    intro f h n j hj
    unfold va_cpy
    rw [if_pos (by omega)]
    congr 1
    omega
  refine z_aload_n dX2_becomeLike_24 rfl rfl ?_
  refine zg_X2_settings dX2_becomeLike_25 tw_76 ?_
  refine z_iconst (v := 0) dX2_becomeLike_28 (by decide) ?_
  refine z_aload_n dX2_becomeLike_29 rfl rfl ?_
  refine zg_X2_settings dX2_becomeLike_30 tw_76 ?_
  refine z_iconst (v := 0) dX2_becomeLike_33 (by decide) ?_
  refine z_bipush (v := 7) dX2_becomeLike_34 (by decide) ?_
  refine z_copy dX2_becomeLike_36 tw_64 (fun _ _ => rfl) (fun _ _ => rfl) (sp := 0) (dp := 0) (n := 7) rfl rfl rfl (by decide) (by decide) ⟨by omega, Nat.le_of_ble_eq_true rfl⟩ ?_
  refine z_aload_n dX2_becomeLike_39 rfl rfl ?_
  refine zg_X2_momenta dX2_becomeLike_40 tw_78 ?_
  refine z_iconst (v := 0) dX2_becomeLike_43 (by decide) ?_
  refine z_aload_n dX2_becomeLike_44 rfl rfl ?_
  refine zg_X2_momenta dX2_becomeLike_45 tw_78 ?_
  refine z_iconst (v := 0) dX2_becomeLike_48 (by decide) ?_
  refine z_bipush (v := 12) dX2_becomeLike_49 (by decide) ?_
  refine z_copy dX2_becomeLike_51 tw_64 (fun _ _ => rfl) (fun _ _ => rfl) (sp := 0) (dp := 0) (n := 12) rfl rfl rfl (by decide) (by decide) ⟨by omega, Nat.le_of_ble_eq_true rfl⟩ ?_
  refine z_aload_n dX2_becomeLike_54 rfl rfl ?_
  refine zg_X2_angles dX2_becomeLike_55 tw_80 ?_
  refine z_iconst (v := 0) dX2_becomeLike_58 (by decide) ?_
  refine z_aload_n dX2_becomeLike_59 rfl rfl ?_
  refine zg_X2_angles dX2_becomeLike_60 tw_80 ?_
  refine z_iconst (v := 0) dX2_becomeLike_63 (by decide) ?_
  refine z_bipush (v := 12) dX2_becomeLike_64 (by decide) ?_
  refine z_copy dX2_becomeLike_66 tw_64 (fun _ _ => rfl) (fun _ _ => rfl) (sp := 0) (dp := 0) (n := 12) rfl rfl rfl (by decide) (by decide) ⟨by omega, Nat.le_of_ble_eq_true rfl⟩ ?_
  refine z_aload_n dX2_becomeLike_69 rfl rfl ?_
  refine zg_X2_totals dX2_becomeLike_70 tw_82 ?_
  refine z_iconst (v := 0) dX2_becomeLike_73 (by decide) ?_
  refine z_aload_n dX2_becomeLike_74 rfl rfl ?_
  refine zg_X2_totals dX2_becomeLike_75 tw_82 ?_
  refine z_iconst (v := 0) dX2_becomeLike_78 (by decide) ?_
  refine z_iconst (v := 3) dX2_becomeLike_79 (by decide) ?_
  refine z_copy dX2_becomeLike_80 tw_64 (fun _ _ => rfl) (fun _ _ => rfl) (sp := 0) (dp := 0) (n := 3) rfl rfl rfl (by decide) (by decide) ⟨by omega, Nat.le_of_ble_eq_true rfl⟩ ?_
  refine z_gen (fun μ' => zoffK [5, 6, 7, 8, 9] t μ μ' ∧ (∀ j, j < 3 → μ' (5, t, 0) j = μ (5, u, 0) j) ∧ (∀ j, j < 7 → μ' (6, t, 0) j = μ (6, u, 0) j) ∧ (∀ j, j < 12 → μ' (7, t, 0) j = μ (7, u, 0) j) ∧ (∀ j, j < 12 → μ' (8, t, 0) j = μ (8, u, 0) j) ∧ (∀ j, j < 3 → μ' (9, t, 0) j = μ (9, u, 0) j)) ⟨?_, ?_, ?_, ?_, ?_, ?_⟩ (fun μ2 hh => ?_)
  · rw [e1]
    exact ((((zoffK.rf.put (5, t, 0) _).put (6, t, 0) _).put (7, t, 0) _).put (8, t, 0) _).put (9, t, 0) _
  · intro j hj
    rw [← hg j hj, e1]
    simp [st]
  · intro j hj
    rw [e1]
    simp [st, cp, hj]
  · intro j hj
    rw [e1]
    simp [st, cp, hj]
  · intro j hj
    rw [e1]
    simp [st, cp, hj]
  · intro j hj
    rw [e1]
    simp [st, cp, hj]
  obtain ⟨o2, b5, b6, b7, b8, b9⟩ := hh
  have fin : ∀ (f i : Nat) (μ3 μ' : zM), i ≤ mk → mk < i + f → zoffK [11] t μ2 μ3 → (∀ c, c < 3 → ∀ i, i < 576 → μ3 (11, t, c) i = μ (11, u, c) i) → zoffK [13, 14, 15] t μ3 μ' → (∀ m, m < i → (∀ j, j < 5 → μ' (13, t, m) j = μ (13, u, m) j) ∧ (∀ j, j < 50 → μ' (14, t, m) j = μ (14, u, m) j) ∧ (∀ j, j < 50 → μ' (15, t, m) j = μ (15, u, m) j)) → Z K 2 "DyeTank$Tank" prog_4_method_3_code 3 120 [zR (5, t, 0), zR (5, u, 0), zI (nI i)] [] μ' := by
    intro f
    induction f with
    | zero => intro i μ3 μ' h1 h2 h3 h4 h5 h6; exact absurd ‹_ < _ + 0› (by omega)
    | succ f ih =>
      intro i μ3 μ' h1 h2 o3 h11 o4 hd
      have q5 : μ' (5, t, 0) = μ2 (5, t, 0) := (o4.at (5, t, 0)).trans (o3.at (5, t, 0))
      refine z_iload_n dX2_becomeLike_120 rfl rfl ?_
      refine z_aload_n dX2_becomeLike_121 rfl rfl ?_
      refine zg_X2_markerCount dX2_becomeLike_122 tw_74 ?_
      refine z_top ((show _ = nI mk by rw [q5, b5 2 (by omega)]; exact hmk)) ?_
      refine z_icmp_ge (tgt := 149) dX2_becomeLike_125 (by decide) (fun hb => ?_) (fun hb => ?_)
      · have hb := nle hb
        have e : i = mk := by omega
        subst e
        refine z_vret hR dX2_becomeLike_149 (⟨rfl, ?_, ?_, ?_, ?_, ?_, ?_, ?_, hd⟩)
        · exact ((o2.sub (ks' := [5, 6, 7, 8, 9, 11, 13, 14, 15]) (by simp)).tr o3 (by simp)).tr o4 (by simp)
        · rw [q5]
          exact b5
        · rw [o4.at (6, t, 0), o3.at (6, t, 0)]
          exact b6
        · rw [o4.at (7, t, 0), o3.at (7, t, 0)]
          exact b7
        · rw [o4.at (8, t, 0), o3.at (8, t, 0)]
          exact b8
        · rw [o4.at (9, t, 0), o3.at (9, t, 0)]
          exact b9
        · intro c hc
          rw [o4.at (11, t, c)]
          exact h11 c hc
      · have hb := nnle hb
        have v13 := zv_13 t ht i (by omega)
        refine z_aload_n dX2_becomeLike_128 rfl rfl ?_
        refine zg_X2_markers dX2_becomeLike_129 tw_86 ?_
        refine z_iload_n dX2_becomeLike_132 rfl rfl ?_
        refine z_ald12 dX2_becomeLike_133 rfl (by omega) ?_
        refine z_aload_n dX2_becomeLike_134 rfl rfl ?_
        refine zg_X2_markers dX2_becomeLike_135 tw_86 ?_
        refine z_iload_n dX2_becomeLike_138 rfl rfl ?_
        refine z_ald12 dX2_becomeLike_139 rfl (by omega) ?_
        refine z_cVv (c_markLike μ' t u i ht hu (by omega) hne) q_X0_becomeLike tw_445 dX2_becomeLike_140 rfl rfl rfl (by omega) (Nat.le_of_ble_eq_true rfl) (fun μ5 hh => ?_)
        obtain ⟨o5, c13, c14, c15⟩ := hh
        have u13 : ∀ m, μ' (13, u, m) = μ (13, u, m) := fun m => ((o4 (13, u, m) (Or.inr hnu)).trans (o3 (13, u, m) (Or.inr hnu))).trans (o2 (13, u, m) (Or.inr hnu))
        have u14 : ∀ m, μ' (14, u, m) = μ (14, u, m) := fun m => ((o4 (14, u, m) (Or.inr hnu)).trans (o3 (14, u, m) (Or.inr hnu))).trans (o2 (14, u, m) (Or.inr hnu))
        have u15 : ∀ m, μ' (15, u, m) = μ (15, u, m) := fun m => ((o4 (15, u, m) (Or.inr hnu)).trans (o3 (15, u, m) (Or.inr hnu))).trans (o2 (15, u, m) (Or.inr hnu))
        rw [u13] at c13
        rw [u14] at c14
        rw [u15] at c15
        refine z_incS dX2_becomeLike_143 rfl (inc1 _) (by decide) rfl ?_
        refine z_goto (tgt := 120) dX2_becomeLike_146 (by decide) ?_
        refine ih (i + 1) μ3 μ5 (by omega) (by omega) o3 h11 (o4.tr (zoffK.of (ks := [13, 14, 15]) o5 (by simp)) (by simp)) ?_
        intro m hm
        by_cases e : m = i
        · rw [e]
          exact ⟨c13, c14, c15⟩
        · have w13 := o5 (13, t, m) (by simp [e])
          have w14 := o5 (14, t, m) (by simp [e])
          have w15 := o5 (15, t, m) (by simp [e])
          rw [w13, w14, w15]
          exact hd m (by omega)
  have loop : ∀ (f i : Nat) (μ' : zM), i ≤ 3 → 3 < i + f → zoffK [11] t μ2 μ' → (∀ c, c < i → ∀ i, i < 576 → μ' (11, t, c) i = μ (11, u, c) i) → Z K 2 "DyeTank$Tank" prog_4_method_3_code 3 85 [zR (5, t, 0), zR (5, u, 0), zI (nI i)] [] μ' := by
    intro f
    induction f with
    | zero => intro i μ' h1 h2 h3 h4; exact absurd ‹_ < _ + 0› (by omega)
    | succ f ih =>
      intro i μ' h1 h2 o3 hd
      refine z_iload_n dX2_becomeLike_85 rfl rfl ?_
      refine z_iconst (v := 3) dX2_becomeLike_86 (by decide) ?_
      refine z_icmp_ge (tgt := 118) dX2_becomeLike_87 (by decide) (fun hb => ?_) (fun hb => ?_)
      · have hb := nle (a := 3) hb
        have e : i = 3 := by omega
        subst e
        refine z_iconst (v := 0) dX2_becomeLike_118 (by decide) ?_
        refine z_istS_n dX2_becomeLike_119 rfl (by decide) rfl ?_
        exact fin (mk + 1) 0 μ' μ' (by omega) (by omega) o3 hd zoffK.rf (fun m h => absurd h (by omega))
      · have hb := nnle (a := 3) hb
        have v11 := zv_11 t ht i hb
        have w11 := zv_11 u hu i hb
        have u11 : μ' (11, u, i) = μ (11, u, i) := (o3 (11, u, i) (Or.inr hnu)).trans (o2 (11, u, i) (Or.inr hnu))
        refine z_aload_n dX2_becomeLike_90 rfl rfl ?_
        refine zg_X2_dyes dX2_becomeLike_91 tw_84 ?_
        refine z_iload_n dX2_becomeLike_94 rfl rfl ?_
        refine z_ald10 dX2_becomeLike_95 rfl hb ?_
        refine z_iconst (v := 0) dX2_becomeLike_96 (by decide) ?_
        refine z_aload_n dX2_becomeLike_97 rfl rfl ?_
        refine zg_X2_dyes dX2_becomeLike_98 tw_84 ?_
        refine z_iload_n dX2_becomeLike_101 rfl rfl ?_
        refine z_ald10 dX2_becomeLike_102 rfl hb ?_
        refine z_iconst (v := 0) dX2_becomeLike_103 (by decide) ?_
        refine z_aload_n dX2_becomeLike_104 rfl rfl ?_
        refine zg_X2_old dX2_becomeLike_105 tw_90 ?_
        refine z_alen dX2_becomeLike_108 (fun _ _ => rfl) ?_
        refine z_copy dX2_becomeLike_109 tw_64 (fun _ _ => rfl) (fun _ _ => rfl) (sp := 0) (dp := 0) (n := 576) rfl rfl rfl (by decide) (by decide) ⟨by omega, Nat.le_of_ble_eq_true rfl⟩ ?_
        refine z_incS dX2_becomeLike_112 rfl (inc1 _) (by decide) rfl ?_
        refine z_goto (tgt := 85) dX2_becomeLike_115 (by decide) ?_
        refine ih (i + 1) _ (by omega) (by omega) (o3.put (11, t, i) _) ?_
        intro c hc j hj
        by_cases e : c = i
        · rw [e, st_eq, cp _ _ _ _ hj, u11]
        · rw [st_ne _ _ (by simp [e])]
          exact hd c (by omega) j hj
  refine z_iconst (v := 0) dX2_becomeLike_83 (by decide) ?_
  refine z_istS_n dX2_becomeLike_84 rfl (by decide) rfl ?_
  exact loop 4 0 μ2 (by omega) (by omega) zoffK.rf (fun c h => absurd h (by omega))
