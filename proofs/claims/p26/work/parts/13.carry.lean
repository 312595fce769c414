/-! steps 3 and 4 of a tick, for one colour: dye goes to the next ring, and between the layers -/
def mva (x s : Int32) : Int32 := (x.toInt64 * s.toInt64 / 1000).toInt32
def con (src dst : Nat) (b : Int32) (i : Nat) : Int32 := (if i = dst then b else 0) - (if i = src then b else 0)
def sec (A : Nat → Int32) (r : Nat) : Nat := (A r).toNatClampNeg / 150
def jj (A : Nat → Int32) (r tg j : Nat) : Nat := (sec A r + 24 - sec A tg + j) % 24
/-- what a ring's layer gives to a ring: at each place -/
def gv (D A : Nat → Int32) (L r tg : Nat) (s : Int32) (m i : Nat) : Int32 := sm (fun j => con (rwi L r + j) (rwi L tg + jj A r tg j) (mva (D (rwi L r + j)) s) i) m
theorem mva_0 (s : Int32) : mva 0 s = 0 := by
  unfold mva
  rw [show (0 : Int32).toInt64 = 0 by decide, Int64.zero_mul]
  decide
theorem con_upd {f : Nat → Int32} {src dst : Nat} (b : Int32) (h : src ≠ dst) : upd (upd f src (f src - b)) dst (upd f src (f src - b) dst + b) = fun i => f i + con src dst b i := by
  funext i
  unfold upd con
  by_cases h1 : i = dst
  · rw [if_pos h1, if_neg (fun e => h e.symm), if_pos h1, if_neg (fun e => h (e.symm.trans h1)), Int32.sub_zero, h1]
  · rw [if_neg h1, if_neg h1]
    by_cases h2 : i = src
    · rw [if_pos h2, if_pos h2, Int32.zero_sub, h2, Int32.sub_eq_add_neg]
    · rw [if_neg h2, if_neg h2, Int32.sub_zero, Int32.add_zero]
theorem con_0 (src dst i : Nat) : con src dst 0 i = 0 := by
  unfold con
  split <;> split <;> decide
theorem fmd24 : ∀ x, x < 24 → ∀ y, y < 24 → fmd (nI x - nI y) 24 = nI ((x + 24 - y) % 24) := by decide +kernel
theorem sec_eq {x : Int32} (a : Nat) (ha : a < 3600) (h : x = nI a) : x / 150 = nI (x.toNatClampNeg / 150) ∧ x.toNatClampNeg / 150 < 24 := by
  subst h
  rw [nI_clamp (by omega)]
  exact ⟨pk_div (d := 150) (by omega) (by omega) (by omega), by omega⟩
theorem sm_add0 (f : Nat → Int32) (g : Nat → Nat → Int32) (k i : Nat) : f i + sm (fun j => g j i) k + g k i = f i + sm (fun j => g j i) (k + 1) := by
  rw [sm, Int32.add_assoc]
theorem c_moveRow0 (μ : zM) (t c : Nat) (ht : t < 4) (hc : c < 3) (L r : Nat) (T s : Int32) (h : s = 0 ∨ ¬ (0 ≤ T ∧ T < μ (5, t, 0) 0)) : zCv yX2_moveRow prog_4_method_28_code 12 (none : Option Jvm.ClassFile.FieldType) 2 [zR (5, t, 0), zR (11, t, c), zI (nI L), zI (nI r), zI T, zI s] μ (fun μ' => μ' = μ) := by
  refine zCt.of "DyeTank$Tank" rfl (by decide +kernel) rfl (Nat.le_of_ble_eq_true rfl) (fun K hR => ?_)
  have v5 := zv_5 t ht
  have v6 := zv_6 t ht
  have v7 := zv_7 t ht
  have v8 := zv_8 t ht
  have v9 := zv_9 t ht
  have v10 := zv_10 t ht
  have v12 := zv_12 t ht
  have v16 := zv_16 t ht
  have v17 := zv_17 t ht
  have v18 := zv_18 t ht
  refine z_ls (ls' := [zR (5, t, 0), zR (11, t, c), zI (nI L), zI (nI r), zI T, zI s, zN, zN, zN, zN, zN, zN]) rfl ?_
  refine z_iload dX2_moveRow_0 rfl ?_
  refine z_if_eq (tgt := 14) dX2_moveRow_2 (by decide) (fun h1 => ?_) (fun h1 => ?_)
  · refine z_vret hR dX2_moveRow_14 (⟨rfl, rfl⟩)
  · refine z_aload_n dX2_moveRow_5 rfl rfl ?_
    refine z_iload dX2_moveRow_6 rfl ?_
    refine z_cVi (c_hasRing μ t ht T) q_X2_hasRing tw_297 dX2_moveRow_8 rfl rfl rfl (by omega) (Nat.le_of_ble_eq_true rfl) ?_
    refine z_bne (tgt := 15) dX2_moveRow_11 (by decide) (fun h2 => ?_) (fun h2 => ?_)
    · exact absurd h2 (h.resolve_left h1)
    · refine z_vret hR dX2_moveRow_14 (⟨rfl, rfl⟩)
theorem c_moveRow (μ : zM) (t c n : Nat) (ht : t < 4) (hc : c < 3) (hn : μ (5, t, 0) 0 = nI n) (hn12 : n ≤ 12) (L r tg : Nat) (hL : L < 2) (hr : r < n) (htg : tg < n) (hne : tg ≠ r) (s : Int32) (hs : ¬ s = 0) (hA : ∀ r, r < n → ∃ a, a < 3600 ∧ μ (8, t, 0) r = nI a) (hD : ∀ i, i < 576 → 0 ≤ μ (18, t, 0) i) : zCv yX2_moveRow prog_4_method_28_code 12 (none : Option Jvm.ClassFile.FieldType) 2 [zR (5, t, 0), zR (11, t, c), zI (nI L), zI (nI r), zI (nI tg), zI s] μ (fun μ' => μ' = st μ (11, t, c) (fun i => μ (11, t, c) i + gv (μ (18, t, 0)) (μ (8, t, 0)) L r tg s 24 i)) := by
  refine zCt.of "DyeTank$Tank" rfl (by decide +kernel) rfl (Nat.le_of_ble_eq_true rfl) (fun K hR => ?_)
  have v5 := zv_5 t ht
  have v6 := zv_6 t ht
  have v7 := zv_7 t ht
  have v8 := zv_8 t ht
  have v9 := zv_9 t ht
  have v10 := zv_10 t ht
  have v12 := zv_12 t ht
  have v16 := zv_16 t ht
  have v17 := zv_17 t ht
  have v18 := zv_18 t ht
  have v11 := zv_11 t ht c hc
  obtain ⟨a, ha, ea⟩ := hA r hr
  obtain ⟨b, hb0, eb⟩ := hA tg htg
  obtain ⟨e1, l1⟩ := sec_eq a ha ea
  obtain ⟨e2, l2⟩ := sec_eq b hb0 eb
  have hrw : rwi L r + 24 ≤ 576 := by unfold rwi; omega
  have hrw2 : rwi L tg + 24 ≤ 576 := by unfold rwi; omega
  have hapart : ∀ j k, j < 24 → k < 24 → rwi L r + j ≠ rwi L tg + k := by
    intro j k hj hk
    unfold rwi
    omega
  have loop : ∀ (f k : Nat) (x10 x11 : zV), zcat x10 = 1 → k ≤ 24 → 24 < k + f → Z K 2 "DyeTank$Tank" prog_4_method_28_code 12 62 [zR (5, t, 0), zR (11, t, c), zI (nI L), zI (nI r), zI (nI tg), zI s, zI (nI (rwi L r)), zI (nI (rwi L tg)), zI (nI (jj (μ (8, t, 0)) r tg k)), zI (nI k), x10, x11] [] (st μ (11, t, c) (fun i => μ (11, t, c) i + gv (μ (18, t, 0)) (μ (8, t, 0)) L r tg s k i)) := by
    intro f
    induction f with
    | zero => intro k x10 x11 h1 h2 h3; exact absurd ‹_ < _ + 0› (by omega)
    | succ f ih =>
      intro k x10 x11 hx10 h1 h2
      have hj : jj (μ (8, t, 0)) r tg k < 24 := Nat.mod_lt _ (by omega)
      generalize hM : st μ (11, t, c) (fun i => μ (11, t, c) i + gv (μ (18, t, 0)) (μ (8, t, 0)) L r tg s k i) = M
      have m18 : M (18, t, 0) = μ (18, t, 0) := by rw [← hM]; exact st_ne _ _ (by simp)
      have m11 : M (11, t, c) = fun i => μ (11, t, c) i + gv (μ (18, t, 0)) (μ (8, t, 0)) L r tg s k i := by rw [← hM]; exact st_eq _ _ _
      refine z_iload dX2_moveRow_62 rfl ?_
      refine z_bipush (v := 24) dX2_moveRow_64 (by decide) ?_
      refine z_icmp_ge (tgt := 147) dX2_moveRow_66 (by decide) (fun hb => ?_) (fun hb => ?_)
      · have hb := nle (a := 24) hb
        have e : k = 24 := by omega
        subst e
        refine z_vret hR dX2_moveRow_147 (⟨rfl, hM.symm⟩)
      · have hb := nnle (a := 24) hb
        have tail : ∀ (x10 x11 : zV) (M' : zM), zcat x10 = 1 → M' = st μ (11, t, c) (fun i => μ (11, t, c) i + gv (μ (18, t, 0)) (μ (8, t, 0)) L r tg s (k + 1) i) → Z K 2 "DyeTank$Tank" prog_4_method_28_code 12 124 [zR (5, t, 0), zR (11, t, c), zI (nI L), zI (nI r), zI (nI tg), zI s, zI (nI (rwi L r)), zI (nI (rwi L tg)), zI (nI (jj (μ (8, t, 0)) r tg k)), zI (nI k), x10, x11] [] M' := by
          intro x10 x11 M' hx eM
          subst eM
          refine z_iload dX2_moveRow_124 rfl ?_
          refine z_bipush (v := 23) dX2_moveRow_126 (by decide) ?_
          refine z_icmp_ge (tgt := 138) dX2_moveRow_128 (by decide) (fun hq => ?_) (fun hq => ?_)
          · have hq := nle (a := 23) hq
            refine z_iconst (v := 0) dX2_moveRow_138 (by decide) ?_
            refine z_istS dX2_moveRow_139 (by decide) rfl ?_
            refine z_incS dX2_moveRow_141 rfl (inc1 _) (by decide) rfl ?_
            refine z_goto (tgt := 62) dX2_moveRow_144 (by decide) ?_
            refine z_ls ?_ (ih (k + 1) x10 x11 hx (by omega) (by omega))
            have : jj (μ (8, t, 0)) r tg (k + 1) = 0 := by unfold jj at hq hj ⊢; omega
            rw [this]
            rfl
          · have hq := nnle (a := 23) hq
            refine z_iload dX2_moveRow_131 rfl ?_
            refine z_iconst (v := 1) dX2_moveRow_133 (by decide) ?_
            refine z_iadd dX2_moveRow_134 ?_
            refine z_goto (tgt := 139) dX2_moveRow_135 (by decide) ?_
            refine z_istS dX2_moveRow_139 (by decide) rfl ?_
            refine z_incS dX2_moveRow_141 rfl (inc1 _) (by decide) rfl ?_
            refine z_goto (tgt := 62) dX2_moveRow_144 (by decide) ?_
            refine z_ls ?_ (ih (k + 1) x10 x11 hx (by omega) (by omega))
            have : jj (μ (8, t, 0)) r tg (k + 1) = jj (μ (8, t, 0)) r tg k + 1 := by unfold jj at hq hj ⊢; omega
            have e3 : nI (jj (μ (8, t, 0)) r tg (k + 1)) = nI (jj (μ (8, t, 0)) r tg k) + 1 := by rw [this, nI_1]
            rw [e3]
            rfl
        refine z_aload_n dX2_moveRow_69 rfl rfl ?_
        refine zg_X2_old dX2_moveRow_70 tw_90 ?_
        refine z_iload dX2_moveRow_73 rfl ?_
        refine z_iload dX2_moveRow_75 rfl ?_
        refine z_iadd dX2_moveRow_77 ?_
        refine z_top ((nI_add _ _)) ?_
        refine z_iald dX2_moveRow_78 (fun _ _ => rfl) rfl (show rwi L r + k < 576 by omega) ?_
        refine z_top ((show _ = μ (18, t, 0) (rwi L r + k) by rw [m18])) ?_
        refine z_istS dX2_moveRow_79 (by decide) rfl ?_
        refine z_iload dX2_moveRow_81 rfl ?_
        refine z_if_le (tgt := 124) dX2_moveRow_83 (by decide) (fun hz => ?_) (fun hz => ?_)
        · have hz0 : μ (18, t, 0) (rwi L r + k) = 0 := Int32.le_antisymm hz (hD _ (by omega))
          refine tail _ _ M rfl ?_
          rw [← hM]
          congr 1
          funext i
          show _ + sm _ k = _ + (sm _ k + con _ _ (mva (μ (18, t, 0) (rwi L r + k)) s) i)
          rw [hz0, mva_0, con_0, Int32.add_zero]
        · refine z_iload dX2_moveRow_86 rfl ?_
          refine z_i2l dX2_moveRow_88 ?_
          refine z_iload dX2_moveRow_89 rfl ?_
          refine z_i2l dX2_moveRow_91 ?_
          refine z_lmul dX2_moveRow_92 ?_
          refine z_ldc2 (v := 1000) dX2_moveRow_93 tw_298 ?_
          refine z_ldiv dX2_moveRow_96 (by decide) ?_
          refine z_l2i dX2_moveRow_97 ?_
          refine z_top ((show _ = mva (μ (18, t, 0) (rwi L r + k)) s from rfl)) ?_
          generalize hb1 : mva (μ (18, t, 0) (rwi L r + k)) s = b1
          refine z_istS dX2_moveRow_98 (by decide) rfl ?_
          refine z_aload_n dX2_moveRow_100 rfl rfl ?_
          refine z_iload dX2_moveRow_101 rfl ?_
          refine z_iload dX2_moveRow_103 rfl ?_
          refine z_iadd dX2_moveRow_105 ?_
          refine z_top ((nI_add _ _)) ?_
          refine z_dup2 dX2_moveRow_106 rfl rfl ?_
          refine z_iald dX2_moveRow_107 (fun _ _ => rfl) rfl (show rwi L r + k < 576 by omega) ?_
          refine z_iload dX2_moveRow_108 rfl ?_
          refine z_isub dX2_moveRow_110 ?_
          refine z_iast dX2_moveRow_111 (fun _ _ => rfl) rfl (show rwi L r + k < 576 by omega) ?_
          refine z_aload_n dX2_moveRow_112 rfl rfl ?_
          refine z_iload dX2_moveRow_113 rfl ?_
          refine z_iload dX2_moveRow_115 rfl ?_
          refine z_iadd dX2_moveRow_117 ?_
          refine z_top ((nI_add _ _)) ?_
          refine z_dup2 dX2_moveRow_118 rfl rfl ?_
          refine z_iald dX2_moveRow_119 (fun _ _ => rfl) rfl (show rwi L tg + jj (μ (8, t, 0)) r tg k < 576 by omega) ?_
          refine z_iload dX2_moveRow_120 rfl ?_
          refine z_iadd dX2_moveRow_122 ?_
          refine z_iast dX2_moveRow_123 (fun _ _ => rfl) rfl (show rwi L tg + jj (μ (8, t, 0)) r tg k < 576 by omega) ?_
          refine tail _ _ _ rfl ?_
          rw [st_eq, st_st, con_upd b1 (hapart k _ hb hj), m11, ← hM, st_st]
          congr 1
          funext i
          show _ + sm _ k + con _ _ b1 i = _ + (sm _ k + con _ _ (mva (μ (18, t, 0) (rwi L r + k)) s) i)
          rw [hb1, Int32.add_assoc]
  refine z_ls (ls' := [zR (5, t, 0), zR (11, t, c), zI (nI L), zI (nI r), zI (nI tg), zI s, zN, zN, zN, zN, zN, zN]) rfl ?_
  refine z_iload dX2_moveRow_0 rfl ?_
  refine z_if_eq (tgt := 14) dX2_moveRow_2 (by decide) (fun h9 => absurd h9 (hs)) (fun _ => ?_)
  refine z_aload_n dX2_moveRow_5 rfl rfl ?_
  refine z_iload dX2_moveRow_6 rfl ?_
  refine z_cVi (c_hasRing μ t ht _) q_X2_hasRing tw_297 dX2_moveRow_8 rfl rfl rfl (by omega) (Nat.le_of_ble_eq_true rfl) ?_
  refine z_bne (tgt := 15) dX2_moveRow_11 (by decide) (fun h2 => ?_) (fun h2 => ?_)
  · refine z_iload_n dX2_moveRow_15 rfl rfl ?_
    refine z_iload_n dX2_moveRow_16 rfl rfl ?_
    refine z_cSi (c_rowOf μ L r) q_X2_rowOf tw_253 dX2_moveRow_17 rfl rfl (by omega) (Nat.le_of_ble_eq_true rfl) ?_
    refine z_istS dX2_moveRow_20 (by decide) rfl ?_
    refine z_iload_n dX2_moveRow_22 rfl rfl ?_
    refine z_iload dX2_moveRow_23 rfl ?_
    refine z_cSi (c_rowOf μ L tg) q_X2_rowOf tw_253 dX2_moveRow_25 rfl rfl (by omega) (Nat.le_of_ble_eq_true rfl) ?_
    refine z_istS dX2_moveRow_28 (by decide) rfl ?_
    refine z_aload_n dX2_moveRow_30 rfl rfl ?_
    refine zg_X2_angles dX2_moveRow_31 tw_80 ?_
    refine z_iload_n dX2_moveRow_34 rfl rfl ?_
    refine z_iald dX2_moveRow_35 (fun _ _ => rfl) rfl (show r < 12 by omega) ?_
    refine z_sipush (v := 150) dX2_moveRow_36 (by decide) ?_
    refine z_idiv dX2_moveRow_39 (by decide) ?_
    refine z_top (e1) ?_
    refine z_aload_n dX2_moveRow_40 rfl rfl ?_
    refine zg_X2_angles dX2_moveRow_41 tw_80 ?_
    refine z_iload dX2_moveRow_44 rfl ?_
    refine z_iald dX2_moveRow_46 (fun _ _ => rfl) rfl (show tg < 12 by omega) ?_
    refine z_sipush (v := 150) dX2_moveRow_47 (by decide) ?_
    refine z_idiv dX2_moveRow_50 (by decide) ?_
    refine z_top (e2) ?_
    refine z_isub dX2_moveRow_51 ?_
    refine z_bipush (v := 24) dX2_moveRow_52 (by decide) ?_
    refine z_cSi (c_floorMod μ _ _ (by decide)) q_J9_floorMod_7cf53 tw_286 dX2_moveRow_54 rfl rfl (by omega) (Nat.le_of_ble_eq_true rfl) ?_
    refine z_top ((show _ = nI (jj (μ (8, t, 0)) r tg 0) by rw [fmd24 _ l1 _ l2]; rfl)) ?_
    refine z_istS dX2_moveRow_57 (by decide) rfl ?_
    refine z_iconst (v := 0) dX2_moveRow_59 (by decide) ?_
    refine z_istS dX2_moveRow_60 (by decide) rfl ?_
    refine z_mu ?_ (loop 25 0 zN zN rfl (by omega) (by omega))
    have e : (fun i => μ (11, t, c) i + gv (μ (18, t, 0)) (μ (8, t, 0)) L r tg s 0 i) = μ (11, t, c) := by
      funext i
      show _ + sm _ 0 = _
      rw [sm, Int32.add_zero]
    rw [e, st_self]
  · refine absurd ⟨nI_pos' (by omega), ?_⟩ h2
    rw [hn]
    exact nI_lt htg (by omega)
def mxb (m a b : Int32) : Int32 := ((a - b).toInt64 * m.toInt64 / 2000).toInt32
def mixF (m : Int32) (n : Nat) (f : Nat → Int32) (i : Nat) : Int32 := if i < n then f i - mxb m (f i) (f (288 + i)) else if 288 ≤ i ∧ i < 288 + n then f i + mxb m (f (i - 288)) (f i) else f i
theorem mixF_0 (m : Int32) (f : Nat → Int32) : mixF m 0 f = f := by
  funext i
  unfold mixF
  rw [if_neg (by omega), if_neg (by omega)]
theorem mixF_s (m : Int32) (f : Nat → Int32) (k : Nat) (hk : k < 288) : upd (upd (mixF m k f) k (mixF m k f k - mxb m (f k) (f (288 + k)))) (288 + k) (upd (mixF m k f) k (mixF m k f k - mxb m (f k) (f (288 + k))) (288 + k) + mxb m (f k) (f (288 + k))) = mixF m (k + 1) f := by
  have h1 : mixF m k f k = f k := by unfold mixF; rw [if_neg (by omega), if_neg (by omega)]
  have h2 : mixF m k f (288 + k) = f (288 + k) := by unfold mixF; rw [if_neg (by omega), if_neg (by omega)]
  funext i
  unfold upd
  by_cases e1 : i = 288 + k
  · subst e1
    rw [if_pos rfl, if_neg (by omega), h2]
    unfold mixF
    rw [if_neg (by omega), if_pos (by omega), Nat.add_sub_cancel_left]
  · rw [if_neg e1]
    by_cases e2 : i = k
    · subst e2
      rw [if_pos rfl, h1]
      unfold mixF
      rw [if_pos (by omega)]
    · rw [if_neg e2]
      unfold mixF
      by_cases h3 : i < k
      · rw [if_pos h3, if_pos (by omega)]
      · rw [if_neg h3, if_neg (show ¬ i < k + 1 by omega)]
        by_cases h4 : 288 ≤ i ∧ i < 288 + k
        · rw [if_pos h4, if_pos (by omega)]
        · rw [if_neg h4, if_neg (by omega)]
theorem mxb_0 (m a b : Int32) (h : (a - b).toInt64 = 0) : mxb m a b = 0 := by
  unfold mxb
  rw [h, Int64.zero_mul]
  decide
theorem lcmp_0 (x : Int64) : lg_cmp x 0 = 0 ↔ x = 0 := by
  unfold lg_cmp
  constructor
  · intro h
    by_cases h1 : (0 : Int64) < x
    · rw [if_pos h1] at h
      cases h
    · rw [if_neg h1] at h
      by_cases h2 : x = 0
      · exact h2
      · rw [if_neg h2] at h
        cases h
  · intro h
    subst h
    decide
theorem c_mixLayers (μ : zM) (t c n : Nat) (ht : t < 4) (hc : c < 3) (hn : μ (5, t, 0) 0 = nI n) (hn12 : n ≤ 12) : zCv yX2_mixLayers prog_4_method_29_code 7 (none : Option Jvm.ClassFile.FieldType) 2 [zR (5, t, 0), zR (11, t, c)] μ (fun μ' => μ' = st μ (11, t, c) (mixF (μ (6, t, 0) 6) (24 * n) (μ (11, t, c)))) := by
  refine zCt.of "DyeTank$Tank" rfl (by decide +kernel) rfl (Nat.le_of_ble_eq_true rfl) (fun K hR => ?_)
  have v5 := zv_5 t ht
  have v6 := zv_6 t ht
  have v7 := zv_7 t ht
  have v8 := zv_8 t ht
  have v9 := zv_9 t ht
  have v10 := zv_10 t ht
  have v12 := zv_12 t ht
  have v16 := zv_16 t ht
  have v17 := zv_17 t ht
  have v18 := zv_18 t ht
  have v11 := zv_11 t ht c hc
  have loop : ∀ (f k : Nat) (x4 x5 x6 : zV), k ≤ 24 * n → 24 * n < k + f → Z K 2 "DyeTank$Tank" prog_4_method_29_code 7 8 [zR (5, t, 0), zR (11, t, c), zI (nI (288 + k)), zI (nI k), x4, x5, x6] [] (st μ (11, t, c) (mixF (μ (6, t, 0) 6) k (μ (11, t, c)))) := by
    intro f
    induction f with
    | zero => intro k x4 x5 x6 h1 h2; exact absurd ‹_ < _ + 0› (by omega)
    | succ f ih =>
      intro k x4 x5 x6 h1 h2
      generalize hM : st μ (11, t, c) (mixF (μ (6, t, 0) 6) k (μ (11, t, c))) = M
      have m5 : M (5, t, 0) = μ (5, t, 0) := by rw [← hM]; exact st_ne _ _ (by simp)
      have m6 : M (6, t, 0) = μ (6, t, 0) := by rw [← hM]; exact st_ne _ _ (by simp)
      have m11 : M (11, t, c) = mixF (μ (6, t, 0) 6) k (μ (11, t, c)) := by rw [← hM]; exact st_eq _ _ _
      refine z_iload_n dX2_mixLayers_8 rfl rfl ?_
      refine z_aload_n dX2_mixLayers_9 rfl rfl ?_
      refine zg_X2_rings dX2_mixLayers_10 tw_70 ?_
      refine z_top ((show _ = nI n by rw [m5]; exact hn)) ?_
      refine z_bipush (v := 24) dX2_mixLayers_13 (by decide) ?_
      refine z_imul dX2_mixLayers_15 ?_
      refine z_top ((show nI n * nI 24 = nI (24 * n) by rw [pk_mul, Nat.mul_comm])) ?_
      refine z_icmp_ge (tgt := 79) dX2_mixLayers_16 (by decide) (fun hb => ?_) (fun hb => ?_)
      · have hb := nle hb
        have e : k = 24 * n := by omega
        subst e
        refine z_vret hR dX2_mixLayers_79 (⟨rfl, hM.symm⟩)
      · have hb := nnle hb
        have a1 : M (11, t, c) k = μ (11, t, c) k := by rw [m11]; unfold mixF; rw [if_neg (by omega), if_neg (by omega)]
        have a2 : M (11, t, c) (288 + k) = μ (11, t, c) (288 + k) := by rw [m11]; unfold mixF; rw [if_neg (by omega), if_neg (by omega)]
        have tail : ∀ (x4 x5 x6 : zV) (M' : zM), M' = st μ (11, t, c) (mixF (μ (6, t, 0) 6) (k + 1) (μ (11, t, c))) → Z K 2 "DyeTank$Tank" prog_4_method_29_code 7 70 [zR (5, t, 0), zR (11, t, c), zI (nI (288 + k)), zI (nI k), x4, x5, x6] [] M' := by
          intro x4 x5 x6 M' eM
          subst eM
          refine z_incS dX2_mixLayers_70 rfl (inc1 _) (by decide) rfl ?_
          refine z_incS dX2_mixLayers_73 rfl (inc1 _) (by decide) rfl ?_
          refine z_goto (tgt := 8) dX2_mixLayers_76 (by decide) ?_
          exact ih (k + 1) x4 x5 x6 (by omega) (by omega)
        refine z_aload_n dX2_mixLayers_19 rfl rfl ?_
        refine z_iload_n dX2_mixLayers_20 rfl rfl ?_
        refine z_iald dX2_mixLayers_21 (fun _ _ => rfl) rfl (show k < 576 by omega) ?_
        refine z_aload_n dX2_mixLayers_22 rfl rfl ?_
        refine z_iload_n dX2_mixLayers_23 rfl rfl ?_
        refine z_iald dX2_mixLayers_24 (fun _ _ => rfl) rfl (show 288 + k < 576 by omega) ?_
        refine z_isub dX2_mixLayers_25 ?_
        refine z_top ((show _ = μ (11, t, c) k - μ (11, t, c) (288 + k) by rw [a1, a2])) ?_
        refine z_i2l dX2_mixLayers_26 ?_
        refine z_lstS dX2_mixLayers_27 (by decide) rfl ?_
        refine z_lload dX2_mixLayers_29 rfl ?_
        refine z_lconst (v := 0) dX2_mixLayers_31 (by decide) ?_
        refine z_lcmp dX2_mixLayers_32 ?_
        refine z_if_eq (tgt := 70) dX2_mixLayers_33 (by decide) (fun hz => ?_) (fun hz => ?_)
        · have hz := (lcmp_0 _).mp hz
          refine tail _ _ _ M ?_
          rw [← hM]
          congr 1
          have h0 := mxb_0 (μ (6, t, 0) 6) _ _ hz
          have h9 := mixF_s (μ (6, t, 0) 6) (μ (11, t, c)) k (by omega)
          rw [h0, Int32.sub_zero, Int32.add_zero] at h9
          rw [← h9]
          funext i
          unfold upd
          by_cases q1 : i = 288 + k
          · rw [if_pos q1, if_neg (by omega), q1]
          · rw [if_neg q1]
            by_cases q2 : i = k
            · rw [if_pos q2, q2]
            · rw [if_neg q2]
        · refine z_lload dX2_mixLayers_36 rfl ?_
          refine z_aload_n dX2_mixLayers_38 rfl rfl ?_
          refine zg_X2_settings dX2_mixLayers_39 tw_76 ?_
          refine z_bipush (v := 6) dX2_mixLayers_42 (by decide) ?_
          refine z_iald dX2_mixLayers_44 (fun _ _ => rfl) rfl (i := 6) (by decide) ?_
          refine z_i2l dX2_mixLayers_45 ?_
          refine z_lmul dX2_mixLayers_46 ?_
          refine z_ldc2 (v := 2000) dX2_mixLayers_47 tw_303 ?_
          refine z_ldiv dX2_mixLayers_50 (by decide) ?_
          refine z_l2i dX2_mixLayers_51 ?_
          refine z_top ((show _ = mxb (μ (6, t, 0) 6) (μ (11, t, c) k) (μ (11, t, c) (288 + k)) by rw [m6]; rfl)) ?_
          refine z_istS dX2_mixLayers_52 (by decide) rfl ?_
          refine z_aload_n dX2_mixLayers_54 rfl rfl ?_
          refine z_iload_n dX2_mixLayers_55 rfl rfl ?_
          refine z_dup2 dX2_mixLayers_56 rfl rfl ?_
          refine z_iald dX2_mixLayers_57 (fun _ _ => rfl) rfl (show k < 576 by omega) ?_
          refine z_iload dX2_mixLayers_58 rfl ?_
          refine z_isub dX2_mixLayers_60 ?_
          refine z_iast dX2_mixLayers_61 (fun _ _ => rfl) rfl (show k < 576 by omega) ?_
          refine z_aload_n dX2_mixLayers_62 rfl rfl ?_
          refine z_iload_n dX2_mixLayers_63 rfl rfl ?_
          refine z_dup2 dX2_mixLayers_64 rfl rfl ?_
          refine z_iald dX2_mixLayers_65 (fun _ _ => rfl) rfl (show 288 + k < 576 by omega) ?_
          refine z_iload dX2_mixLayers_66 rfl ?_
          refine z_iadd dX2_mixLayers_68 ?_
          refine z_iast dX2_mixLayers_69 (fun _ _ => rfl) rfl (show 288 + k < 576 by omega) ?_
          refine tail _ _ _ _ ?_
          rw [st_eq, st_st, m11, mixF_s _ _ _ (by omega), ← hM, st_st]
  refine z_ls (ls' := [zR (5, t, 0), zR (11, t, c), zN, zN, zN, zN, zN]) rfl ?_
  refine z_iconst (v := 1) dX2_mixLayers_0 (by decide) ?_
  refine z_iconst (v := 0) dX2_mixLayers_1 (by decide) ?_
  refine z_cSi (c_rowOf μ 1 0) q_X2_rowOf tw_253 dX2_mixLayers_2 rfl rfl (by omega) (Nat.le_of_ble_eq_true rfl) ?_
  refine z_istS_n dX2_mixLayers_5 rfl (by decide) rfl ?_
  refine z_iconst (v := 0) dX2_mixLayers_6 (by decide) ?_
  refine z_istS_n dX2_mixLayers_7 rfl (by decide) rfl ?_
  refine z_mu ?_ (loop (24 * n + 1) 0 zN zN zN (by omega) (by omega))
  rw [mixF_0, st_self]
def tgo (w : Bool) (r n : Nat) : Option Nat := if w then (if r = 0 then none else some (r - 1)) else (if r + 1 < n then some (r + 1) else none)
def inw (L : Nat) (x : Int32) : Bool := decide (0 < x) == (L == 1)
def rmv (D A : Nat → Int32) (n L r : Nat) (x : Int32) (i : Nat) : Int32 := if x = 0 then 0 else match tgo (inw L x) r n with
  | none => 0
  | some tg => gv D A L r tg (absI x) 24 i
def dyf (D A : Nat → Int32) (n : Nat) (x : Nat → Int32) (i : Nat) : Int32 := D i + sm (fun r => rmv D A n 1 r (x r) i + rmv D A n 0 r (x r) i) n
theorem absI_ne {x : Int32} (h : ¬ x = 0) : ¬ absI x = 0 := by
  unfold absI
  by_cases h1 : 0 ≤ x
  · rw [if_pos h1]
    exact h
  · rw [if_neg h1]
    intro q
    apply h
    rw [Int32.zero_sub] at q
    exact absurd q (Int32.neg_ne_zero.mpr h)
theorem c_moveRowX (μ : zM) (t c n : Nat) (ht : t < 4) (hc : c < 3) (hn : μ (5, t, 0) 0 = nI n) (hn12 : n ≤ 12) (L r : Nat) (hL : L < 2) (hr : r < n) (x T : Int32) (hT : T = if inw L x then nI r - 1 else nI r + 1) (hA : ∀ r, r < n → ∃ a, a < 3600 ∧ μ (8, t, 0) r = nI a) (hD : ∀ i, i < 576 → 0 ≤ μ (18, t, 0) i) : zCv yX2_moveRow prog_4_method_28_code 12 (none : Option Jvm.ClassFile.FieldType) 2 [zR (5, t, 0), zR (11, t, c), zI (nI L), zI (nI r), zI T, zI (absI x)] μ (fun μ' => μ' = st μ (11, t, c) (fun i => μ (11, t, c) i + rmv (μ (18, t, 0)) (μ (8, t, 0)) n L r x i)) := by
  have same : ∀ (g : Nat → Int32), (∀ i, g i = 0) → st μ (11, t, c) (fun i => μ (11, t, c) i + g i) = μ := by
    intro g hg
    have e : (fun i => μ (11, t, c) i + g i) = μ (11, t, c) := by
      funext i
      rw [hg i, Int32.add_zero]
    rw [e, st_self]
  by_cases hx : x = 0
  · rw [same _ (fun i => by unfold rmv; rw [if_pos hx])]
    exact c_moveRow0 μ t c ht hc L r T _ (Or.inl (by rw [hx]; decide))
  · cases hg : tgo (inw L x) r n with
    | none =>
      rw [same _ (fun i => by unfold rmv; rw [if_neg hx, hg])]
      refine c_moveRow0 μ t c ht hc L r T _ (Or.inr ?_)
      rintro ⟨h1, h2⟩
      rw [hn] at h2
      unfold tgo at hg
      by_cases hw : inw L x = true
      · rw [if_pos hw] at hg hT
        by_cases h0 : r = 0
        · rw [hT, h0] at h1
          exact absurd h1 (by decide)
        · rw [if_neg h0] at hg
          cases hg
      · rw [if_neg hw] at hg hT
        by_cases h0 : r + 1 < n
        · rw [if_pos h0] at hg
          cases hg
        · rw [hT, nI_1] at h2
          have := nlt h2
          omega
    | some tg =>
      have e : (fun i => μ (11, t, c) i + rmv (μ (18, t, 0)) (μ (8, t, 0)) n L r x i) = fun i => μ (11, t, c) i + gv (μ (18, t, 0)) (μ (8, t, 0)) L r tg (absI x) 24 i := by
        funext i
        unfold rmv
        rw [if_neg hx, hg]
      have hk : T = nI tg ∧ tg < n ∧ tg ≠ r := by
        unfold tgo at hg
        by_cases hw : inw L x = true
        · rw [if_pos hw] at hg hT
          by_cases h0 : r = 0
          · rw [if_pos h0] at hg
            cases hg
          · rw [if_neg h0] at hg
            cases hg
            refine ⟨?_, by omega, by omega⟩
            rw [hT]
            exact pk_sub (b := 1) (by omega)
        · rw [if_neg hw] at hg hT
          by_cases h0 : r + 1 < n
          · rw [if_pos h0] at hg
            cases hg
            exact ⟨by rw [hT, nI_1], h0, by omega⟩
          · rw [if_neg h0] at hg
            cases hg
      rw [e, hk.1]
      exact c_moveRow μ t c n ht hc hn hn12 L r tg hL hr hk.2.1 hk.2.2 (absI x) (absI_ne hx) hA hD
theorem sm_congr {f g : Nat → Int32} : ∀ (k : Nat), (∀ j, j < k → f j = g j) → sm f k = sm g k
  | 0, _ => rfl
  | k + 1, h => by
    rw [sm, sm, sm_congr k (fun j hj => h j (by omega)), h k (by omega)]
theorem rmv_congr {D D' A : Nat → Int32} {n L r : Nat} (hL : L < 2) (hr : r < 12) (h : ∀ i, i < 576 → D i = D' i) (x : Int32) : rmv D A n L r x = rmv D' A n L r x := by
  funext i
  unfold rmv
  have e : ∀ tg, gv D A L r tg (absI x) 24 i = gv D' A L r tg (absI x) 24 i := by
    intro tg
    unfold gv
    refine sm_congr 24 (fun j hj => ?_)
    rw [h (rwi L r + j) (by unfold rwi; omega)]
  split
  · rfl
  · split
    · rfl
    · exact e _
theorem mixF_m0 (n : Nat) (f : Nat → Int32) : mixF 0 n f = f := by
  funext i
  have h : ∀ a b, mxb 0 a b = 0 := by
    intro a b
    unfold mxb
    rw [show (0 : Int32).toInt64 = 0 by decide, Int64.mul_zero]
    decide
  unfold mixF
  rw [h, h, Int32.sub_zero, Int32.add_zero]
  split
  · rfl
  · split <;> rfl
theorem c_carry (μ : zM) (t c n : Nat) (ht : t < 4) (hc : c < 3) (hn : μ (5, t, 0) 0 = nI n) (hn12 : n ≤ 12) (x : Nat → Int32) (hx : ∀ r, r < n → μ (17, t, 0) r = x r) (hA : ∀ r, r < n → ∃ a, a < 3600 ∧ μ (8, t, 0) r = nI a) (hD : ∀ i, i < 576 → 0 ≤ μ (11, t, c) i) (h6 : 0 ≤ μ (6, t, 0) 6) : zCv yX2_carry prog_4_method_27_code 6 (none : Option Jvm.ClassFile.FieldType) 3 [zR (5, t, 0), zI (nI c)] μ (fun μ' => zoff [(11, t, c), (18, t, 0)] μ μ' ∧ μ' (11, t, c) = mixF (μ (6, t, 0) 6) (24 * n) (dyf (μ (11, t, c)) (μ (8, t, 0)) n x)) := by
  refine zCt.of "DyeTank$Tank" rfl (by decide +kernel) rfl (Nat.le_of_ble_eq_true rfl) (fun K hR => ?_)
  have v5 := zv_5 t ht
  have v6 := zv_6 t ht
  have v7 := zv_7 t ht
  have v8 := zv_8 t ht
  have v9 := zv_9 t ht
  have v10 := zv_10 t ht
  have v12 := zv_12 t ht
  have v16 := zv_16 t ht
  have v17 := zv_17 t ht
  have v18 := zv_18 t ht
  have v11 := zv_11 t ht c hc
  have loop : ∀ (f r : Nat) (x4 x5 : zV) (μ' : zM), r ≤ n → n < r + f → zcat x4 = 1 → zoff [(11, t, c), (18, t, 0)] μ μ' → (∀ i, i < 576 → μ' (18, t, 0) i = μ (11, t, c) i) → μ' (11, t, c) = (fun i => μ (11, t, c) i + sm (fun r => rmv (μ (11, t, c)) (μ (8, t, 0)) n 1 r (x r) i + rmv (μ (11, t, c)) (μ (8, t, 0)) n 0 r (x r) i) r) → Z K 3 "DyeTank$Tank" prog_4_method_27_code 6 24 [zR (5, t, 0), zI (nI c), zR (11, t, c), zI (nI r), x4, x5] [] μ' := by
    intro f
    induction f with
    | zero => intro r x4 x5 μ' h1 h2 h3 h4 h5 h6; exact absurd ‹_ < _ + 0› (by omega)
    | succ f ih =>
      intro r x4 x5 μ' h1 h2 hx4 ho h18 h11
      have e5 := ho.at (5, t, 0)
      have e6 := ho.at (6, t, 0)
      have e8 := ho.at (8, t, 0)
      have e17 := ho.at (17, t, 0)
      refine z_iload_n dX2_carry_24 rfl rfl ?_
      refine z_aload_n dX2_carry_25 rfl rfl ?_
      refine zg_X2_rings dX2_carry_26 tw_70 ?_
      refine z_top ((show _ = nI n by rw [e5]; exact hn)) ?_
      refine z_icmp_ge (tgt := 111) dX2_carry_29 (by decide) (fun hb => ?_) (fun hb => ?_)
      · have hb := nle hb
        have e : r = n := by omega
        subst e
        refine z_aload_n dX2_carry_111 rfl rfl ?_
        refine zg_X2_settings dX2_carry_112 tw_76 ?_
        refine z_bipush (v := 6) dX2_carry_115 (by decide) ?_
        refine z_iald dX2_carry_117 (fun _ _ => rfl) rfl (i := 6) (by decide) ?_
        refine z_if_le (tgt := 126) dX2_carry_118 (by decide) (fun hm => ?_) (fun hm => ?_)
        · rw [e6] at hm
          have hm0 : μ (6, t, 0) 6 = 0 := Int32.le_antisymm hm h6
          refine z_vret hR dX2_carry_126 (⟨rfl, ho, by rw [hm0, mixF_m0, h11]; rfl⟩)
        · refine z_aload_n dX2_carry_121 rfl rfl ?_
          refine z_aload_n dX2_carry_122 rfl rfl ?_
          refine z_cVv (c_mixLayers μ' t c r ht hc (by rw [e5]; exact hn) hn12) q_X2_mixLayers tw_299 dX2_carry_123 rfl rfl rfl (by omega) (Nat.le_of_ble_eq_true rfl) (fun μ2 hh => ?_)
          subst hh
          refine z_vret hR dX2_carry_126 (⟨rfl, ho.put (by simp) _, by rw [st_eq, h11, e6]; rfl⟩)
      · have hb := nnle hb
        have hxr : μ' (17, t, 0) r = x r := by rw [e17]; exact hx r hb
        have hAp : ∀ r, r < n → ∃ a, a < 3600 ∧ μ' (8, t, 0) r = nI a := by rw [e8]; exact hA
        have hDp : ∀ i, i < 576 → 0 ≤ μ' (18, t, 0) i := fun i hi => by rw [h18 i hi]; exact hD i hi
        have second : ∀ (v : Int32) (μ2 : zM), (v = if 0 < x r then 1 else 0) → μ2 = st μ' (11, t, c) (fun i => μ' (11, t, c) i + rmv (μ' (18, t, 0)) (μ' (8, t, 0)) n 1 r (x r) i) → Z K 3 "DyeTank$Tank" prog_4_method_27_code 6 82 [zR (5, t, 0), zI (nI c), zR (11, t, c), zI (nI r), zI v, zI (absI (x r))] [] μ2 := by
          intro v μ2 hv e2
          have o2 : zoff [(11, t, c)] μ' μ2 := by rw [e2]; exact zoff.rf.put (by simp) _
          have a18 := o2.at (18, t, 0)
          have a8 := o2.at (8, t, 0)
          have a5 := o2.at (5, t, 0)
          have call : ∀ T, (T = if inw 0 (x r) then nI r - 1 else nI r + 1) → Z K 3 "DyeTank$Tank" prog_4_method_27_code 6 100 [zR (5, t, 0), zI (nI c), zR (11, t, c), zI (nI r), zI v, zI (absI (x r))] [zI T, zI (nI r), zI (nI 0), zR (11, t, c), zR (5, t, 0)] μ2 := by
            intro T hT
            refine z_iload dX2_carry_100 rfl ?_
            refine z_cVv (c_moveRowX μ2 t c n ht hc (by rw [a5, e5]; exact hn) hn12 0 r (by decide) hb (x r) T hT (by rw [a8]; exact hAp) (by rw [a18]; exact hDp)) q_X2_moveRow tw_293 dX2_carry_102 rfl rfl rfl (by omega) (Nat.le_of_ble_eq_true rfl) (fun μ3 hh => ?_)
            refine z_incS dX2_carry_105 rfl (inc1 _) (by decide) rfl ?_
            refine z_goto (tgt := 24) dX2_carry_108 (by decide) ?_
            refine ih (r + 1) _ _ _ (by omega) (by omega) rfl ?_ ?_ ?_
            · rw [hh]
              exact ((zoff.tr ho o2 (by simp)).put (by simp) _)
            · intro i hi
              rw [hh, st_ne _ _ (by simp), a18]
              exact h18 i hi
            · rw [hh, st_eq, a18, a8, e2, st_eq, h11, e8, rmv_congr (D' := μ (11, t, c)) (by decide) (by omega) h18, rmv_congr (D' := μ (11, t, c)) (by decide) (by omega) h18]
              funext i
              show _ + sm _ r + _ + _ = _ + (sm _ r + (_ + _))
              rw [Int32.add_assoc, Int32.add_assoc]
          refine z_aload_n dX2_carry_82 rfl rfl ?_
          refine z_aload_n dX2_carry_83 rfl rfl ?_
          refine z_iconst (v := 0) dX2_carry_84 (by decide) ?_
          refine z_iload_n dX2_carry_85 rfl rfl ?_
          refine z_iload dX2_carry_86 rfl ?_
          refine z_if_eq (tgt := 97) dX2_carry_88 (by decide) (fun h0 => ?_) (fun h0 => ?_)
          · refine z_iload_n dX2_carry_97 rfl rfl ?_
            refine z_iconst (v := 1) dX2_carry_98 (by decide) ?_
            refine z_isub dX2_carry_99 ?_
            refine call _ ?_
            rw [hv] at h0
            by_cases hp : 0 < x r
            · rw [if_pos hp] at h0
              exact absurd h0 (by decide)
            · have : inw 0 (x r) = true := by unfold inw; rw [decide_eq_false hp]; rfl
              rw [if_pos this]
          · refine z_iload_n dX2_carry_91 rfl rfl ?_
            refine z_iconst (v := 1) dX2_carry_92 (by decide) ?_
            refine z_iadd dX2_carry_93 ?_
            refine z_goto (tgt := 100) dX2_carry_94 (by decide) ?_
            refine call _ ?_
            rw [hv] at h0
            by_cases hp : 0 < x r
            · have : ¬ inw 0 (x r) = true := by unfold inw; rw [decide_eq_true hp]; decide
              rw [if_neg this]
            · rw [if_neg hp] at h0
              exact absurd rfl h0
        have go : ∀ (v : Int32), (v = if 0 < x r then 1 else 0) → Z K 3 "DyeTank$Tank" prog_4_method_27_code 6 46 [zR (5, t, 0), zI (nI c), zR (11, t, c), zI (nI r), x4, x5] [zI v] μ' := by
          intro v hv
          have call : ∀ T, (T = if inw 1 (x r) then nI r - 1 else nI r + 1) → Z K 3 "DyeTank$Tank" prog_4_method_27_code 6 77 [zR (5, t, 0), zI (nI c), zR (11, t, c), zI (nI r), zI v, zI (absI (x r))] [zI T, zI (nI r), zI (nI 1), zR (11, t, c), zR (5, t, 0)] μ' := by
            intro T hT
            refine z_iload dX2_carry_77 rfl ?_
            refine z_cVv (c_moveRowX μ' t c n ht hc (by rw [e5]; exact hn) hn12 1 r (by decide) hb (x r) T hT hAp hDp) q_X2_moveRow tw_293 dX2_carry_79 rfl rfl rfl (by omega) (Nat.le_of_ble_eq_true rfl) (fun μ2 hh => ?_)
            exact second v μ2 hv hh
          refine z_istS dX2_carry_46 (by decide) rfl ?_
          refine z_aload_n dX2_carry_48 rfl rfl ?_
          refine zg_X2_pushes dX2_carry_49 tw_89 ?_
          refine z_iload_n dX2_carry_52 rfl rfl ?_
          refine z_iald dX2_carry_53 (fun _ _ => rfl) rfl (by omega) ?_
          refine z_top (hxr) ?_
          refine z_mabs dX2_carry_54 tw_218 ⟨by omega, Nat.le_of_ble_eq_true rfl⟩ ?_
          refine z_istS dX2_carry_57 (by decide) rfl ?_
          refine z_aload_n dX2_carry_59 rfl rfl ?_
          refine z_aload_n dX2_carry_60 rfl rfl ?_
          refine z_iconst (v := 1) dX2_carry_61 (by decide) ?_
          refine z_iload_n dX2_carry_62 rfl rfl ?_
          refine z_iload dX2_carry_63 rfl ?_
          refine z_if_eq (tgt := 74) dX2_carry_65 (by decide) (fun h0 => ?_) (fun h0 => ?_)
          · refine z_iload_n dX2_carry_74 rfl rfl ?_
            refine z_iconst (v := 1) dX2_carry_75 (by decide) ?_
            refine z_iadd dX2_carry_76 ?_
            refine call _ ?_
            rw [hv] at h0
            by_cases hp : 0 < x r
            · rw [if_pos hp] at h0
              exact absurd h0 (by decide)
            · have : ¬ inw 1 (x r) = true := by unfold inw; rw [decide_eq_false hp]; decide
              rw [if_neg this]
          · refine z_iload_n dX2_carry_68 rfl rfl ?_
            refine z_iconst (v := 1) dX2_carry_69 (by decide) ?_
            refine z_isub dX2_carry_70 ?_
            refine z_goto (tgt := 77) dX2_carry_71 (by decide) ?_
            refine call _ ?_
            rw [hv] at h0
            by_cases hp : 0 < x r
            · have : inw 1 (x r) = true := by unfold inw; rw [decide_eq_true hp]; rfl
              rw [if_pos this]
            · rw [if_neg hp] at h0
              exact absurd rfl h0
        refine z_aload_n dX2_carry_32 rfl rfl ?_
        refine zg_X2_pushes dX2_carry_33 tw_89 ?_
        refine z_iload_n dX2_carry_36 rfl rfl ?_
        refine z_iald dX2_carry_37 (fun _ _ => rfl) rfl (by omega) ?_
        refine z_top (hxr) ?_
        refine z_if_le (tgt := 45) dX2_carry_38 (by decide) (fun hp => ?_) (fun hp => ?_)
        · refine z_iconst (v := 0) dX2_carry_45 (by decide) ?_
          exact go 0 (by rw [if_neg (by rw [Int32.not_lt]; exact hp)])
        · refine z_iconst (v := 1) dX2_carry_41 (by decide) ?_
          refine z_goto (tgt := 46) dX2_carry_42 (by decide) ?_
          exact go 1 (by rw [if_pos (Int32.not_le.mp hp)])
  refine z_ls (ls' := [zR (5, t, 0), zI (nI c), zN, zN, zN, zN]) rfl ?_
  refine z_aload_n dX2_carry_0 rfl rfl ?_
  refine zg_X2_dyes dX2_carry_1 tw_84 ?_
  refine z_iload_n dX2_carry_4 rfl rfl ?_
  refine z_ald10 dX2_carry_5 rfl hc ?_
  refine z_astS_n dX2_carry_6 rfl (by decide) rfl ?_
  refine z_aload_n dX2_carry_7 rfl rfl ?_
  refine z_iconst (v := 0) dX2_carry_8 (by decide) ?_
  refine z_aload_n dX2_carry_9 rfl rfl ?_
  refine zg_X2_old dX2_carry_10 tw_90 ?_
  refine z_iconst (v := 0) dX2_carry_13 (by decide) ?_
  refine z_aload_n dX2_carry_14 rfl rfl ?_
  refine zg_X2_old dX2_carry_15 tw_90 ?_
  refine z_alen dX2_carry_18 (fun _ _ => rfl) ?_
  refine z_copy dX2_carry_19 tw_64 (fun _ _ => rfl) (fun _ _ => rfl) (sp := 0) (dp := 0) (n := 576) rfl rfl rfl (by decide) (by decide) ⟨by omega, Nat.le_of_ble_eq_true rfl⟩ ?_
  refine z_iconst (v := 0) dX2_carry_22 (by decide) ?_
  refine z_istS_n dX2_carry_23 rfl (by decide) rfl ?_
  refine loop (n + 1) 0 zN zN _ (by omega) (by omega) rfl (zoff.rf.put (by simp) _) ?_ ?_
  · intro i hi
    rw [st_eq]
    unfold va_cpy
    rw [if_pos (by omega)]
    congr 1
    omega
  · rw [st_ne _ _ (by simp)]
    funext i
    show _ = _ + sm _ 0
    rw [sm, Int32.add_zero]
