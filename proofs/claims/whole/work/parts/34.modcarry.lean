/-! texts carried out, slots: the reference -/
def SL (L : List Int32) : Prop := (L.getD 0 0 = 116 ∧ L.length = 2) ∨ (L.getD 0 0 = 118 ∧ L.length = 3) ∨ (L.getD 0 0 = 100 ∧ L.length = 6)
theorem stepP_SL {ch : Nat → Int32} {s : Nat} (h : (stepP ch s).2.1 = false) : SL (stepP ch s).2.2 := by
  by_cases h1 : ch s = 116
  · rw [show stepP ch s = _ from if_pos h1]
    exact Or.inl ⟨rfl, rfl⟩
  · by_cases h2 : ch s = 118
    · rw [show stepP ch s = _ from (if_neg h1).trans (if_pos h2)]
      exact Or.inr (Or.inl ⟨rfl, rfl⟩)
    · by_cases h3 : ch s = 100
      · rw [show stepP ch s = _ from (if_neg h1).trans ((if_neg h2).trans (if_pos h3))]
        exact Or.inr (Or.inr ⟨rfl, rfl⟩)
      · rw [show stepP ch s = _ from (if_neg h1).trans ((if_neg h2).trans (if_neg h3))] at h
        exact absurd (show true = false from h) (by decide)
theorem txtP_SL {ch : Nat → Int32} : ∀ (f s : Nat), (txtP ch f s).2.1 = false → ∀ L, L ∈ (txtP ch f s).2.2 → SL L
  | 0, s, h => absurd (show true = false from h) (by decide)
  | f + 1, s, h => by
    intro L hL
    by_cases q : (stepP ch s).2.1 = false ∧ ch (stepP ch s).1 = 44
    · rw [show txtP ch (f + 1) s = _ from if_pos q] at h hL
      rcases List.mem_cons.mp hL with e | e
      · rw [e]
        exact stepP_SL q.1
      · exact txtP_SL f _ h L e
    · rw [show txtP ch (f + 1) s = _ from if_neg q] at h hL
      have e : L = (stepP ch s).2.2 := List.mem_singleton.mp hL
      rw [e]
      exact stepP_SL h
def doA (a : Nat → Int32) (L : List Int32) : Bool × (Nat → Int32) :=
  if L.getD 0 0 = 116 then
    if (1 ≤ L.getD 1 0 ∧ L.getD 1 0 ≤ 1000) ∧ a 1 + L.getD 1 0 ≤ 100000 then (true, itF (L.getD 1 0).toNatClampNeg a) else (false, a)
  else if L.getD 0 0 = 118 then
    if (0 ≤ L.getD 1 0 ∧ L.getD 1 0 ≤ nI (rN a) - 1) ∧ (-1500 ≤ L.getD 2 0 ∧ L.getD 2 0 ≤ 1500) then (true, upd a (9 + (L.getD 1 0).toNatClampNeg) (L.getD 2 0 * nI (2 * (L.getD 1 0).toNatClampNeg + 1))) else (false, a)
  else
    if isPl (rN a) (L.getD 1 0) (L.getD 2 0) (L.getD 3 0) (L.getD 4 0) ∧ (1 ≤ L.getD 5 0 ∧ L.getD 5 0 ≤ 1000000) ∧ allA (aD a (L.getD 1 0).toNatClampNeg) (rN a) + L.getD 5 0 ≤ 10000000 then
      (true, upd a (dix (L.getD 1 0).toNatClampNeg (L.getD 2 0).toNatClampNeg (L.getD 3 0).toNatClampNeg (cel a (L.getD 3 0).toNatClampNeg (L.getD 4 0))) (a (dix (L.getD 1 0).toNatClampNeg (L.getD 2 0).toNatClampNeg (L.getD 3 0).toNatClampNeg (cel a (L.getD 3 0).toNatClampNeg (L.getD 4 0))) + L.getD 5 0))
    else (false, a)
def runA : List (List Int32) → (Nat → Int32) → Nat × (Nat → Int32)
  | [], a => (0, a)
  | L :: Ls, a => if (doA a L).1 = true then ((runA Ls (doA a L).2).1 + 1, (runA Ls (doA a L).2).2) else (0, (doA a L).2)
/-- what the calls of a text ask of the row -/
def Gd (a : Nat → Int32) : Prop := (∀ k, k ≤ 1000 → Wf (itF k a) ∧ 0 ≤ itF k a 1) ∧ (∀ r, r < rN a → -1000000000 < vel (aP a) r) ∧ ∀ c, c < 3 → 0 ≤ (allA (aD a c) (rN a)).toInt ∧ (allA (aD a c) (rN a)).toInt ≤ 10000000
theorem m_carries (μ : zM) (hG : Gd (μ (21, 0, 0))) (i : Nat) (hi : i ≤ 30) (L : List Int32) (hS : SL L) (hL : ∀ j, j < L.length → μ (28, 0, 0) (6 * i + j) = L.getD j 0) : zCs yX4_carries prog_6_method_65_code 4 (some .boolean) 7 [zR (20, 0, 0), zI (nI (6 * i))] μ (fun μ' r => r = zb ((doA (μ (21, 0, 0)) L).1 = true) ∧ zoff [(21, 0, 0), (25, 0, 0), (26, 0, 0)] μ μ' ∧ μ' (21, 0, 0) = (doA (μ (21, 0, 0)) L).2) := by
  refine zCt.of "DyeTankModel" rfl (by decide +kernel) rfl (Nat.le_of_ble_eq_true rfl) (fun K hR => ?_)
  have v20 := zv_20
  have v21 := zv_21
  have v22 := zv_22
  have v23 := zv_23
  have v24 := zv_24
  have v25 := zv_25
  have v26 := zv_26
  have v27 := zv_27
  have v28 := zv_28
  obtain ⟨hT, hV, hA⟩ := hG
  have hW := fun k hk => (hT k hk).1
  obtain ⟨w0, w2, w12, w33, w6, wm⟩ := hW 0 (by omega)
  change μ (21, 0, 0) 0 = nI (rN (μ (21, 0, 0))) at w0
  change 2 ≤ rN (μ (21, 0, 0)) at w2
  change rN (μ (21, 0, 0)) ≤ 12 at w12
  generalize hnn : rN (μ (21, 0, 0)) = n at w0 w2 w12 hV hA
  refine z_ls (ls' := [zR (20, 0, 0), zI (nI (6 * i)), zN, zN]) rfl ?_
  have hx1 : μ (28, 0, 0) (6 * i + 1) = L.getD 1 0 := hL 1 (by rcases hS with h | h | h <;> omega)
  have hx0 : μ (28, 0, 0) (6 * i) = L.getD 0 0 := hL 0 (by rcases hS with h | h | h <;> omega)
  refine z_aload_n dX4_carries_0 rfl rfl ?_
  refine zg_X4_steps dX4_carries_1 tw_562 ?_
  refine z_iload_n dX4_carries_4 rfl rfl ?_
  refine z_iconst (v := 1) dX4_carries_5 (by decide) ?_
  refine z_iadd dX4_carries_6 ?_
  refine z_top ((nI_add (6 * i) 1)) ?_
  refine z_iald dX4_carries_7 (fun _ _ => rfl) rfl (show 6 * i + 1 < 192 by omega) ?_
  refine z_top (hx1) ?_
  rcases hS with ⟨hk, hlen⟩ | ⟨hk, hlen⟩ | ⟨hk, hlen⟩
  · refine z_istS_n dX4_carries_8 rfl (by decide) rfl ?_
    refine z_aload_n dX4_carries_9 rfl rfl ?_
    refine zg_X4_steps dX4_carries_10 tw_562 ?_
    refine z_iload_n dX4_carries_13 rfl rfl ?_
    refine z_iconst (v := 2) dX4_carries_14 (by decide) ?_
    refine z_iadd dX4_carries_15 ?_
    refine z_iald dX4_carries_16 (fun _ _ => rfl) (nI_add (6 * i) 2) (show 6 * i + 2 < 192 by omega) ?_
    refine z_istS_n dX4_carries_17 rfl (by decide) rfl ?_
    refine z_aload_n dX4_carries_18 rfl rfl ?_
    refine zg_X4_steps dX4_carries_19 tw_562 ?_
    refine z_iload_n dX4_carries_22 rfl rfl ?_
    refine z_iald dX4_carries_23 (fun _ _ => rfl) rfl (show 6 * i < 192 by omega) ?_
    refine z_top ((show _ = (116 : Int32) from hx0.trans hk)) ?_
    refine z_lookup (off := 28) (tgt := 52) dX4_carries_24 (by decide) (by decide) (by decide) ?_
    refine z_aload_n dX4_carries_52 rfl rfl ?_
    refine z_iload_n dX4_carries_53 rfl rfl ?_
    refine z_cVs (m_tick μ hW _) q_X4_tick tw_851 dX4_carries_54 rfl rfl rfl (by omega) (Nat.le_of_ble_eq_true rfl) (fun μ2 x2 hh => ?_)
    have eD : doA (μ (21, 0, 0)) L = (if (1 ≤ L.getD 1 0 ∧ L.getD 1 0 ≤ 1000) ∧ μ (21, 0, 0) 1 + L.getD 1 0 ≤ 100000 then (true, itF (L.getD 1 0).toNatClampNeg (μ (21, 0, 0))) else (false, μ (21, 0, 0))) := if_pos hk
    rcases hh with ⟨c1, rfl, rfl⟩ | ⟨c1, c2, rfl, rfl⟩ | ⟨c1, c2, T, hT2, eT, e2, o2, r2⟩
    · rw [if_neg (fun q => c1 q.1)] at eD
      rw [eD] at hR
      refine z_if_lt (tgt := 64) dX4_carries_57 (by decide) (fun _ => ?_) (fun h9 => absurd (by decide) h9)
      refine z_iconst (v := 0) dX4_carries_64 (by decide) ?_
      refine z_bret hR dX4_carries_65 (Or.inl rfl) ⟨_, rfl, rfl, zoff.rf, rfl⟩
    · rw [if_neg (fun q => c2 q.2)] at eD
      rw [eD] at hR
      refine z_if_lt (tgt := 64) dX4_carries_57 (by decide) (fun _ => ?_) (fun h9 => absurd (by decide) h9)
      refine z_iconst (v := 0) dX4_carries_64 (by decide) ?_
      refine z_bret hR dX4_carries_65 (Or.inl rfl) ⟨_, rfl, rfl, zoff.rf, rfl⟩
    · rw [if_pos ⟨c1, c2⟩] at eD
      rw [eD] at hR
      have hx2 : 0 ≤ x2 := by rw [e2, r2]; exact (hT T hT2).2
      refine z_if_lt (tgt := 64) dX4_carries_57 (by decide) (fun h9 => absurd h9 (Int32.not_lt.mpr hx2)) (fun _ => ?_)
      refine z_iconst (v := 1) dX4_carries_60 (by decide) ?_
      refine z_goto (tgt := 65) dX4_carries_61 (by decide) ?_
      refine z_bret hR dX4_carries_65 (Or.inr rfl) ⟨_, rfl, rfl, o2, ?_⟩
      rw [r2, eT, nI_clamp (by omega)]
  · have hx2 : μ (28, 0, 0) (6 * i + 2) = L.getD 2 0 := hL 2 (by omega)
    refine z_istS_n dX4_carries_8 rfl (by decide) rfl ?_
    refine z_aload_n dX4_carries_9 rfl rfl ?_
    refine zg_X4_steps dX4_carries_10 tw_562 ?_
    refine z_iload_n dX4_carries_13 rfl rfl ?_
    refine z_iconst (v := 2) dX4_carries_14 (by decide) ?_
    refine z_iadd dX4_carries_15 ?_
    refine z_iald dX4_carries_16 (fun _ _ => rfl) (nI_add (6 * i) 2) (show 6 * i + 2 < 192 by omega) ?_
    refine z_top (hx2) ?_
    refine z_istS_n dX4_carries_17 rfl (by decide) rfl ?_
    refine z_aload_n dX4_carries_18 rfl rfl ?_
    refine zg_X4_steps dX4_carries_19 tw_562 ?_
    refine z_iload_n dX4_carries_22 rfl rfl ?_
    refine z_iald dX4_carries_23 (fun _ _ => rfl) rfl (show 6 * i < 192 by omega) ?_
    refine z_top ((show _ = (118 : Int32) from hx0.trans hk)) ?_
    refine z_lookup (off := 42) (tgt := 66) dX4_carries_24 (by decide) (by decide) (by decide) ?_
    refine z_aload_n dX4_carries_66 rfl rfl ?_
    refine z_iload_n dX4_carries_67 rfl rfl ?_
    refine z_iload_n dX4_carries_68 rfl rfl ?_
    refine z_cVs (m_spin μ n w0 w2 w12 _ _) q_X4_spin tw_852 dX4_carries_69 rfl rfl rfl (by omega) (Nat.le_of_ble_eq_true rfl) (fun μ2 x2 hh => ?_)
    have eD : doA (μ (21, 0, 0)) L = (if (0 ≤ L.getD 1 0 ∧ L.getD 1 0 ≤ nI (rN (μ (21, 0, 0))) - 1) ∧ (-1500 ≤ L.getD 2 0 ∧ L.getD 2 0 ≤ 1500) then (true, upd (μ (21, 0, 0)) (9 + (L.getD 1 0).toNatClampNeg) (L.getD 2 0 * nI (2 * (L.getD 1 0).toNatClampNeg + 1))) else (false, μ (21, 0, 0))) := (if_neg (by rw [hk]; decide)).trans (if_pos hk)
    rw [hnn] at eD
    have hIff := rngP (x := L.getD 1 0) (n := n) (by omega) (by omega)
    refine z_ldc (v := -1000000000) dX4_carries_72 tw_853 ?_
    rcases hh with ⟨r, hr, er, c2, e2, r2⟩ | ⟨⟨c1, e2⟩ | ⟨c1, c2, e2⟩, r2⟩
    · rw [if_pos ⟨hIff.mpr ⟨r, hr, er⟩, c2⟩] at eD
      rw [eD] at hR
      have hlt : -1000000000 < x2 := by rw [e2]; exact hV r hr
      refine z_icmp_le (tgt := 81) dX4_carries_74 (by decide) (fun h9 => absurd h9 (Int32.not_le.mpr hlt)) (fun _ => ?_)
      refine z_iconst (v := 1) dX4_carries_77 (by decide) ?_
      refine z_goto (tgt := 82) dX4_carries_78 (by decide) ?_
      refine z_bret hR dX4_carries_82 (Or.inr rfl) ⟨_, rfl, rfl, by rw [r2]; exact zoff.rf.put (by simp) _, ?_⟩
      rw [r2, st_eq, er, nI_clamp (by omega)]
    · rw [if_neg (fun q => c1 (hIff.mp q.1))] at eD
      rw [eD] at hR
      subst r2 e2
      refine z_icmp_le (tgt := 81) dX4_carries_74 (by decide) (fun _ => ?_) (fun h9 => absurd (by decide) h9)
      refine z_iconst (v := 0) dX4_carries_81 (by decide) ?_
      refine z_bret hR dX4_carries_82 (Or.inl rfl) ⟨_, rfl, rfl, zoff.rf, rfl⟩
    · rw [if_neg (fun q => c2 q.2)] at eD
      rw [eD] at hR
      subst r2 e2
      refine z_icmp_le (tgt := 81) dX4_carries_74 (by decide) (fun _ => ?_) (fun h9 => absurd (by decide) h9)
      refine z_iconst (v := 0) dX4_carries_81 (by decide) ?_
      refine z_bret hR dX4_carries_82 (Or.inl rfl) ⟨_, rfl, rfl, zoff.rf, rfl⟩
  · have hx2 : μ (28, 0, 0) (6 * i + 2) = L.getD 2 0 := hL 2 (by omega)
    have hx3 : μ (28, 0, 0) (6 * i + 3) = L.getD 3 0 := hL 3 (by omega)
    have hx4 : μ (28, 0, 0) (6 * i + 4) = L.getD 4 0 := hL 4 (by omega)
    have hx5 : μ (28, 0, 0) (6 * i + 5) = L.getD 5 0 := hL 5 (by omega)
    refine z_istS_n dX4_carries_8 rfl (by decide) rfl ?_
    refine z_aload_n dX4_carries_9 rfl rfl ?_
    refine zg_X4_steps dX4_carries_10 tw_562 ?_
    refine z_iload_n dX4_carries_13 rfl rfl ?_
    refine z_iconst (v := 2) dX4_carries_14 (by decide) ?_
    refine z_iadd dX4_carries_15 ?_
    refine z_iald dX4_carries_16 (fun _ _ => rfl) (nI_add (6 * i) 2) (show 6 * i + 2 < 192 by omega) ?_
    refine z_top (hx2) ?_
    refine z_istS_n dX4_carries_17 rfl (by decide) rfl ?_
    refine z_aload_n dX4_carries_18 rfl rfl ?_
    refine zg_X4_steps dX4_carries_19 tw_562 ?_
    refine z_iload_n dX4_carries_22 rfl rfl ?_
    refine z_iald dX4_carries_23 (fun _ _ => rfl) rfl (show 6 * i < 192 by omega) ?_
    refine z_top ((show _ = (100 : Int32) from hx0.trans hk)) ?_
    refine z_lookup (off := 59) (tgt := 83) dX4_carries_24 (by decide) (by decide) (by decide) ?_
    refine z_aload_n dX4_carries_83 rfl rfl ?_
    refine z_iload_n dX4_carries_84 rfl rfl ?_
    refine z_iload_n dX4_carries_85 rfl rfl ?_
    refine z_aload_n dX4_carries_86 rfl rfl ?_
    refine zg_X4_steps dX4_carries_87 tw_562 ?_
    refine z_iload_n dX4_carries_90 rfl rfl ?_
    refine z_iconst (v := 3) dX4_carries_91 (by decide) ?_
    refine z_iadd dX4_carries_92 ?_
    refine z_iald dX4_carries_93 (fun _ _ => rfl) (nI_add (6 * i) 3) (show 6 * i + 3 < 192 by omega) ?_
    refine z_top (hx3) ?_
    refine z_aload_n dX4_carries_94 rfl rfl ?_
    refine zg_X4_steps dX4_carries_95 tw_562 ?_
    refine z_iload_n dX4_carries_98 rfl rfl ?_
    refine z_iconst (v := 4) dX4_carries_99 (by decide) ?_
    refine z_iadd dX4_carries_100 ?_
    refine z_iald dX4_carries_101 (fun _ _ => rfl) (nI_add (6 * i) 4) (show 6 * i + 4 < 192 by omega) ?_
    refine z_top (hx4) ?_
    refine z_aload_n dX4_carries_102 rfl rfl ?_
    refine zg_X4_steps dX4_carries_103 tw_562 ?_
    refine z_iload_n dX4_carries_106 rfl rfl ?_
    refine z_iconst (v := 5) dX4_carries_107 (by decide) ?_
    refine z_iadd dX4_carries_108 ?_
    refine z_iald dX4_carries_109 (fun _ _ => rfl) (nI_add (6 * i) 5) (show 6 * i + 5 < 192 by omega) ?_
    refine z_top (hx5) ?_
    refine z_cVs (m_pour μ n w0 w2 w12 _ _ _ _ _) q_X4_pour tw_854 dX4_carries_110 rfl rfl rfl (by omega) (Nat.le_of_ble_eq_true rfl) (fun μ2 x2 hh => ?_)
    have eD : doA (μ (21, 0, 0)) L = _ := (if_neg (by rw [hk]; decide)).trans (if_neg (by rw [hk]; decide))
    rw [hnn] at eD
    rcases hh with ⟨c1, e2, r2⟩ | ⟨c1, c2, e2, r2⟩ | ⟨c1, c2, c', L', r', h3, h4, h5, ec, eL, er, ⟨c3, e2, r2⟩ | ⟨c3, e2, r2⟩⟩
    · rw [if_neg (fun q => c1 q.1)] at eD
      rw [eD] at hR
      subst r2 e2
      refine z_if_lt (tgt := 120) dX4_carries_113 (by decide) (fun _ => ?_) (fun h9 => absurd (by decide) h9)
      refine z_iconst (v := 0) dX4_carries_120 (by decide) ?_
      refine z_bret hR dX4_carries_121 (Or.inl rfl) ⟨_, rfl, rfl, zoff.rf, rfl⟩
    · rw [if_neg (fun q => c2 q.2.1)] at eD
      rw [eD] at hR
      subst r2 e2
      refine z_if_lt (tgt := 120) dX4_carries_113 (by decide) (fun _ => ?_) (fun h9 => absurd (by decide) h9)
      refine z_iconst (v := 0) dX4_carries_120 (by decide) ?_
      refine z_bret hR dX4_carries_121 (Or.inl rfl) ⟨_, rfl, rfl, zoff.rf, rfl⟩
    · have ec' : (L.getD 1 0).toNatClampNeg = c' := by rw [ec]; exact nI_clamp (by omega)
      rw [ec'] at eD
      rw [if_neg (fun q => c3 q.2.2)] at eD
      rw [eD] at hR
      subst r2 e2
      refine z_if_lt (tgt := 120) dX4_carries_113 (by decide) (fun _ => ?_) (fun h9 => absurd (by decide) h9)
      refine z_iconst (v := 0) dX4_carries_120 (by decide) ?_
      refine z_bret hR dX4_carries_121 (Or.inl rfl) ⟨_, rfl, rfl, zoff.rf, rfl⟩
    · have ec' : (L.getD 1 0).toNatClampNeg = c' := by rw [ec]; exact nI_clamp (by omega)
      have eL' : (L.getD 2 0).toNatClampNeg = L' := by rw [eL]; exact nI_clamp (by omega)
      have er' : (L.getD 3 0).toNatClampNeg = r' := by rw [er]; exact nI_clamp (by omega)
      rw [ec', eL', er', if_pos ⟨c1, c2, c3⟩] at eD
      rw [eD] at hR
      have hp : 0 ≤ x2 := by
        obtain ⟨a1, a2⟩ := hA c' h3
        have b1 := Int32.le_iff_toInt_le.mp c2.1
        have b2 := Int32.le_iff_toInt_le.mp c2.2
        rw [show (1 : Int32).toInt = 1 by decide] at b1
        rw [show (1000000 : Int32).toInt = 1000000 by decide] at b2
        rw [e2, Int32.le_iff_toInt_le, Int32.toInt_zero, Int32.toInt_add, Int.bmod_eq_of_le (by omega) (by omega)]
        omega
      refine z_if_lt (tgt := 120) dX4_carries_113 (by decide) (fun h9 => absurd h9 (Int32.not_lt.mpr hp)) (fun _ => ?_)
      refine z_iconst (v := 1) dX4_carries_116 (by decide) ?_
      refine z_goto (tgt := 121) dX4_carries_117 (by decide) ?_
      refine z_bret hR dX4_carries_121 (Or.inr rfl) ⟨_, rfl, rfl, by rw [r2]; exact zoff.rf.put (by simp) _, ?_⟩
      rw [r2, st_eq]
theorem txtP_le {p : Nat → Int32} {l : Nat} : ∀ (f s : Nat), s ≤ l → (txtP (chr p l) f s).1 ≤ l
  | 0, s, h => h
  | f + 1, s, h => by
    by_cases q : (stepP (chr p l) s).2.1 = false ∧ chr p l (stepP (chr p l) s).1 = 44
    · rw [show txtP (chr p l) (f + 1) s = _ from if_pos q]
      exact txtP_le f _ (chr_ne q.2 (by decide))
    · rw [show txtP (chr p l) (f + 1) s = _ from if_neg q]
      exact stepP_le h
theorem runA_G {G : (Nat → Int32) → Prop} (h : ∀ a L, G a → G (doA a L).2) : ∀ (Ls : List (List Int32)) (a : Nat → Int32), G a → G (runA Ls a).2
  | [], a, g => g
  | L :: Ls, a, g => by
    by_cases q : (doA a L).1 = true
    · rw [show runA (L :: Ls) a = _ from if_pos q]
      exact runA_G h Ls _ (h a L g)
    · rw [show runA (L :: Ls) a = _ from if_neg q]
      exact h a L g
theorem m_carryOut (μ : zM) (G : (Nat → Int32) → Prop) (hG : ∀ a, G a → Gd a) (hD : ∀ a L, G a → SL L → G (doA a L).2) (h0 : G (μ (21, 0, 0))) {l s0 k0 : Nat} {w0 : Bool} (h : PSt μ l s0 w0 k0) (hl : l ≤ 60) : zCs yX4_carryOut prog_6_method_66_code 2 (some .int) 8 [zR (20, 0, 0)] μ (fun μ' r => zoff [(20, 0, 0), (21, 0, 0), (25, 0, 0), (26, 0, 0), (28, 0, 0)] μ μ' ∧ (∃ s' w' k', PSt μ' (if fauP (chr (μ (27, 0, 0)) l) l = -6 then 0 else l) s' w' k') ∧ r = (if fauP (chr (μ (27, 0, 0)) l) l = -6 then nI (runA (txtP (chr (μ (27, 0, 0)) l) 21 0).2.2 (μ (21, 0, 0))).1 else -3) ∧ μ' (21, 0, 0) = (if fauP (chr (μ (27, 0, 0)) l) l = -6 then (runA (txtP (chr (μ (27, 0, 0)) l) 21 0).2.2 (μ (21, 0, 0))).2 else μ (21, 0, 0))) := by
  refine zCt.of "DyeTankModel" rfl (by decide +kernel) rfl (Nat.le_of_ble_eq_true rfl) (fun K hR => ?_)
  have v20 := zv_20
  have v21 := zv_21
  have v22 := zv_22
  have v23 := zv_23
  have v24 := zv_24
  have v25 := zv_25
  have v26 := zv_26
  have v27 := zv_27
  have v28 := zv_28
  refine z_ls (ls' := [zR (20, 0, 0), zN]) rfl ?_
  refine z_aload_n dX4_carryOut_0 rfl rfl ?_
  refine z_cVs (m_fault μ h hl) q_X4_fault tw_846 dX4_carryOut_1 rfl rfl rfl (by omega) (Nat.le_of_ble_eq_true rfl) (fun μ1 x1 hh => ?_)
  generalize hch : chr (μ (27, 0, 0)) l = ch at hR hh ⊢
  obtain ⟨e1, o1, hlen, p1, hS⟩ := hh
  refine z_bipush (v := -6) dX4_carryOut_4 (by decide) ?_
  rw [e1]
  refine z_icmp_eq (tgt := 12) dX4_carryOut_6 (by decide) (fun hf => ?_) (fun hf => ?_)
  · simp only [if_pos hf] at hR
    have hw : (txtP ch 21 0).2.1 = false := by
      by_cases q : (txtP ch 21 0).2.1 = true
      · unfold fauP at hf
        rw [if_pos (Or.inl q)] at hf
        have hle : (txtP ch 21 0).1 ≤ l := by rw [← hch]; exact txtP_le 21 0 (by omega)
        have := nI_pos' (n := (txtP ch 21 0).1) (by omega)
        rw [hf] at this
        exact absurd this (by decide)
      · exact Bool.eq_false_iff.mpr q
    have hSP := hS hw
    have hSL := txtP_SL 21 0 hw
    generalize (txtP ch 21 0).2.2 = Ls at hR hlen p1 hSP hSL
    have loop : ∀ (f i : Nat) (a : Nat → Int32) (μ' : zM), i ≤ Ls.length → Ls.length < i + f → zoff [(20, 0, 0), (21, 0, 0), (25, 0, 0), (26, 0, 0), (28, 0, 0)] μ μ' → μ' (20, 0, 0) = μ1 (20, 0, 0) → μ' (28, 0, 0) = μ1 (28, 0, 0) → μ' (21, 0, 0) = a → G a → runA Ls (μ (21, 0, 0)) = (i + (runA (Ls.drop i) a).1, (runA (Ls.drop i) a).2) → Z K 8 "DyeTankModel" prog_6_method_66_code 2 14 [zR (20, 0, 0), zI (nI i)] [] μ' := by
      intro f
      induction f with
      | zero => intro i a μ' h1 h2 h3 h4 h5 h6 h7 h8; exact absurd ‹_ < _ + 0› (by omega)
      | succ f ih =>
        intro i a μ' h1 h2 ho r20 r28 ra hg hM
        have fin : ∀ (μ2 : zM) (a2 : Nat → Int32), zoff [(20, 0, 0), (21, 0, 0), (25, 0, 0), (26, 0, 0), (28, 0, 0)] μ μ2 → μ2 (20, 0, 0) = μ1 (20, 0, 0) → μ2 (21, 0, 0) = a2 → runA Ls (μ (21, 0, 0)) = (i, a2) → Z K 8 "DyeTankModel" prog_6_method_66_code 2 39 [zR (20, 0, 0), zI (nI i)] [] μ2 := by
          intro μ2 a2 o2 q20 q21 hM2
          refine z_aload_n dX4_carryOut_39 rfl rfl ?_
          refine z_iconst (v := 0) dX4_carryOut_40 (by decide) ?_
          refine zp_X4_padMany dX4_carryOut_41 tw_559 ?_
          refine z_iload_n dX4_carryOut_44 rfl rfl ?_
          refine z_iret hR dX4_carryOut_45 (⟨_, rfl, o2.put (by simp) _, ⟨_, _, _, by rw [PSt, st_eq, q20]; exact ⟨rfl, p1.2.1, p1.2.2.1, p1.2.2.2⟩⟩, by rw [hM2], by rw [st_ne _ _ (by simp), q21, hM2]⟩)
        refine z_iload_n dX4_carryOut_14 rfl rfl ?_
        refine z_aload_n dX4_carryOut_15 rfl rfl ?_
        refine zg_X4_stepMany dX4_carryOut_16 tw_563 ?_
        refine z_top ((show _ = nI Ls.length by rw [r20]; exact p1.2.2.2)) ?_
        refine z_icmp_ge (tgt := 39) dX4_carryOut_19 (by decide) (fun hb => ?_) (fun hb => ?_)
        · have hb := nle hb
          have e : i = Ls.length := by omega
          refine fin μ' a ho r20 ra ?_
          rw [hM, e, List.drop_length]
          rfl
        · have hb := nnle hb
          refine z_aload_n dX4_carryOut_22 rfl rfl ?_
          refine z_bipush (v := 6) dX4_carryOut_23 (by decide) ?_
          refine z_iload_n dX4_carryOut_25 rfl rfl ?_
          refine z_imul dX4_carryOut_26 ?_
          refine z_top ((pk_mul 6 i)) ?_
          have hi := hb
          have hget : Ls[i]? = some Ls[i] := List.getElem?_eq_getElem hi
          refine z_cVs (m_carries μ' (by rw [ra]; exact hG a hg) i (by omega) Ls[i] (hSL _ (List.getElem_mem hi)) (fun j hj => by rw [r28]; exact (hSP i _ hget).2 j hj)) q_X4_carries tw_847 dX4_carryOut_27 rfl rfl rfl (by omega) (Nat.le_of_ble_eq_true rfl) (fun μ2 x2 hh => ?_)
          rw [ra] at hh
          obtain ⟨e2, o2, r2⟩ := hh
          have hdrop : Ls.drop i = Ls[i] :: Ls.drop (i + 1) := List.drop_eq_getElem_cons hi
          rw [hdrop] at hM
          have o3 : zoff [(20, 0, 0), (21, 0, 0), (25, 0, 0), (26, 0, 0), (28, 0, 0)] μ μ2 := zoff.tr ho o2 (by simp)
          have q20 : μ2 (20, 0, 0) = μ1 (20, 0, 0) := (o2.at (20, 0, 0)).trans r20
          rw [e2]
          refine z_beq (tgt := 39) dX4_carryOut_30 (by decide) (fun hz => ?_) (fun hz => ?_)
          · refine fin μ2 _ o3 q20 r2 ?_
            rw [hM, show runA (Ls[i] :: Ls.drop (i + 1)) a = _ from if_neg hz]
            rfl
          · refine z_incS dX4_carryOut_33 rfl (inc1 _) (by decide) rfl ?_
            refine z_goto (tgt := 14) dX4_carryOut_36 (by decide) ?_
            refine ih (i + 1) (doA a Ls[i]).2 μ2 (by omega) (by omega) o3 q20 ((o2.at (28, 0, 0)).trans r28) r2 (hD a _ hg (hSL _ (List.getElem_mem hi))) ?_
            rw [hM, show runA (Ls[i] :: Ls.drop (i + 1)) a = _ from if_pos hz]
            show (i + (_ + 1), _) = (i + 1 + _, _)
            rw [Nat.add_assoc, Nat.add_comm 1]
    refine z_iconst (v := 0) dX4_carryOut_12 (by decide) ?_
    refine z_istS_n dX4_carryOut_13 rfl (by decide) rfl ?_
    refine loop (Ls.length + 1) 0 (μ (21, 0, 0)) μ1 (by omega) (by omega) (o1.sub (by simp)) rfl rfl (o1.at (21, 0, 0)) h0 ?_
    rw [Nat.zero_add]
    rfl
  · simp only [if_neg hf] at hR
    refine z_bipush (v := -3) dX4_carryOut_9 (by decide) ?_
    refine z_iret hR dX4_carryOut_11 (⟨_, rfl, o1.sub (by simp), ⟨_, _, _, p1⟩, rfl, o1.at (21, 0, 0)⟩)
