/-! forecasts are the least and come true: settled() of the law -/
theorem FST_use {h : Nat → Bool} {M : Nat} {w : Int32} (hf : FST h M w) (hM : M < 2 ^ 31) : ∃ lim, lim ≤ M ∧ ((0 ≤ w ∧ w = nI lim) ∨ (¬ 0 ≤ w ∧ lim = M)) ∧ ∀ k, k ≤ lim → (h k = true ↔ nI k = w) := by
  rcases hf with ⟨k, hk, ht, hl, ew⟩ | ⟨hl, ew⟩
  · refine ⟨k, hk, Or.inl ⟨by rw [ew]; exact nI_pos' (by omega), ew⟩, fun j hj => ?_⟩
    rw [ew]
    constructor
    · intro q
      by_cases e : j = k
      · rw [e]
      · rw [hl j (by omega)] at q
        cases q
    · intro q
      rw [nI_inj (by omega) (by omega) q]
      exact ht
  · refine ⟨M, Nat.le_refl _, Or.inr ⟨by rw [ew]; decide, rfl⟩, fun j hj => ?_⟩
    rw [hl j hj, ew]
    constructor
    · intro q
      cases q
    · intro q
      have e := congrArg Int32.toInt q
      rw [nI_toInt (by omega), show (-6 : Int32).toInt = -6 by decide] at e
      omega
def calmI (Q : Nat → Bool) : Nat → Int32
  | 0 => 1
  | r + 1 => calmI Q r &&& (if Q r = true then 1 else 0)
theorem calm_eq (Q : Nat → Bool) : ∀ r, (calmI Q r = 1 ∧ ∀ j, j < r → Q j = true) ∨ (calmI Q r = 0 ∧ ¬ ∀ j, j < r → Q j = true)
  | 0 => Or.inl ⟨rfl, fun j hj => by omega⟩
  | r + 1 => by
    rw [calmI]
    rcases calm_eq Q r with ⟨e, h⟩ | ⟨e, h⟩
    · rw [e]
      by_cases q : Q r = true
      · rw [if_pos q]
        refine Or.inl ⟨by decide, fun j hj => ?_⟩
        by_cases ej : j = r
        · rw [ej]; exact q
        · exact h j (by omega)
      · rw [if_neg q]
        exact Or.inr ⟨by decide, fun z => q (z r (by omega))⟩
    · rw [e]
      refine Or.inr ⟨?_, fun z => h (fun j hj => z j (by omega))⟩
      split <;> decide
def calmQ (a : rw) (b : Int32) (r : Nat) : Bool := decide (vel (aP a) r - aS a 4 ≤ b ∧ -(vel (aP a) r - aS a 4) ≤ b)
theorem calm_sett {a : rw} (h : Full a) {b : Nat} (hb : b ≤ 1000) : settB a (rN a) (nI b) = true ↔ ∀ r, r < rN a → calmQ a (nI b) r = true := by
  have hn := Full_n h
  unfold settB calmQ
  rw [decide_eq_true_iff]
  refine forall_congr' (fun r => ?_)
  refine ⟨fun q hr => ?_, fun q hr => ?_⟩
  all_goals
    have hv := Full_vel h (r := r) (by omega)
    have hS : -1500 ≤ (aS a 4).toInt ∧ (aS a 4).toInt ≤ 1500 := by
      obtain ⟨t, ht, h1, hI, _⟩ := h
      exact hI.2.1.2.2.2.2.1
    have q' := q hr
    have e1 : (vel (aP a) r - aS a 4).toInt = (vel (aP a) r).toInt - (aS a 4).toInt := by rw [Int32.toInt_sub, Int.bmod_eq_of_le (by omega) (by omega)]
    have e2 : (-(vel (aP a) r - aS a 4)).toInt = -((vel (aP a) r).toInt - (aS a 4).toInt) := by rw [Int32.toInt_neg, e1, Int.bmod_eq_of_le (by omega) (by omega)]
    have e3 : (-(nI b)).toInt = -(b : Int) := by rw [Int32.toInt_neg, nI_toInt (by omega), Int.bmod_eq_of_le (by omega) (by omega)]
    have e4 := nI_toInt (n := b) (by omega)
  · rw [decide_eq_true_iff, Int32.le_iff_toInt_le, Int32.le_iff_toInt_le, e1, e2, e4]
    rw [Int32.le_iff_toInt_le, Int32.le_iff_toInt_le, e1, e3, e4] at q'
    omega
  · rw [Int32.le_iff_toInt_le, Int32.le_iff_toInt_le, e1, e3, e4]
    rw [decide_eq_true_iff, Int32.le_iff_toInt_le, Int32.le_iff_toInt_le, e1, e2, e4] at q'
    omega
theorem FST_same {h : Nat → Bool} {M : Nat} {w w' : Int32} (h1 : FST h M w) (h2 : FST h M w') : w = w' := by
  rcases h1 with ⟨k, hk, ht, hl, e⟩ | ⟨hl, e⟩ <;> rcases h2 with ⟨k', hk', ht', hl', e'⟩ | ⟨hl', e'⟩
  · rcases Nat.lt_trichotomy k k' with q | q | q
    · rw [hl' k q] at ht; cases ht
    · rw [e, e', q]
    · rw [hl k' q] at ht'; cases ht'
  · rw [hl' k hk] at ht; cases ht
  · rw [hl k' hk'] at ht'; cases ht'
  · rw [e, e']
set_option maxRecDepth 100000 in
theorem k_settled {μ : zM} {a : rw} {S : Nat → Option rw} {t : Nat} (h : OK μ a S 0) (hw : Lw a t) (ht : t ≤ 90000) (v : Int32) (E : xE) : xCs yL_settled method_9_code 10 (some .boolean) 8 0 0 [zR (0, 0, 0), zI v] μ E (fun μ' E' => E' = E ∧ ∃ S', OK μ' a S' 0) := by
  refine xCt.of "DyeTankLaw" rfl (by decide +kernel) rfl (Nat.le_of_ble_eq_true rfl) (fun K hR => ?_)
  have hF := h.2.1
  obtain ⟨hn2, hn12⟩ := Full_n hF
  refine j_ls (ls' := [zR (0, 0, 0), zI v, zN, zN, zN, zN, zN, zN, zN, zN]) rfl ?_
  refine j_iload_n dL_settled_0 rfl rfl ?_
  refine j_sipush (v := 200) dL_settled_1 (by decide) ?_
  refine j_cSi (c_up _ 200 (by decide)) q_L_up tw_189 dL_settled_4 rfl rfl (by omega) (Nat.le_of_ble_eq_true rfl) (by omega) (by omega) ?_
  obtain ⟨b, hb, eb⟩ := up_ex v (m := 200) (by omega) (by omega)
  refine j_top (eb) ?_
  refine j_istore_n dL_settled_7 rfl (by decide) rfl ?_
  refine j_iconst (v := 1) dL_settled_8 (by decide) ?_
  refine j_iload_n dL_settled_9 rfl rfl ?_
  refine j_bipush (v := 8) dL_settled_10 (by decide) ?_
  refine j_ishr dL_settled_12 ?_
  refine j_bipush (v := 60) dL_settled_13 (by decide) ?_
  refine j_cSi (c_up _ 60 (by decide)) q_L_up tw_189 dL_settled_15 rfl rfl (by omega) (Nat.le_of_ble_eq_true rfl) (by omega) (by omega) ?_
  obtain ⟨m, hm, em⟩ := up_ex (v >>> (8 &&& 31)) (m := 60) (by omega) (by omega)
  refine j_top (em) ?_
  refine j_iadd dL_settled_18 ?_
  refine j_top ((nI_add 1 m)) ?_
  obtain ⟨M, hM⟩ : ∃ M, M = 1 + m := ⟨_, rfl⟩
  rw [← hM]
  refine j_istore_n dL_settled_19 rfl (by decide) rfl ?_
  refine j_aload_n dL_settled_20 rfl rfl ?_
  refine j_iload_n dL_settled_21 rfl rfl ?_
  refine j_iload_n dL_settled_22 rfl rfl ?_
  refine j_cVs (g_settles h (b := b) (M := M) (by omega) (by omega)) q_X3_settles tw_457 dL_settled_23 rfl rfl rfl (by omega) (Nat.le_of_ble_eq_true rfl) (by omega) (by omega) (fun μ1 w ⟨hf, h1⟩ => ?_) zv_0
  refine j_istore dL_settled_26 (by decide) rfl ?_
  refine j_aload_n dL_settled_28 rfl rfl ?_
  refine j_iconst (v := 0) dL_settled_29 (by decide) ?_
  refine j_cVs (g_save h1 (i := 0) (by omega)) q_X3_save tw_437 dL_settled_30 rfl rfl rfl (by omega) (Nat.le_of_ble_eq_true rfl) (by omega) (by omega) (fun μ2 w2 ⟨ew, h2⟩ => ?_) zv_0
  subst ew
  obtain ⟨lim, hlim, hcase, hiff⟩ := FST_use hf (by omega)
  refine j_istore dL_settled_33 (by decide) rfl ?_
  refine j_iconst (v := 0) dL_settled_35 (by decide) ?_
  refine j_istore dL_settled_36 (by decide) rfl ?_
  have loop : ∀ (f k : Nat) (μ : zM), k ≤ lim + 1 → lim + 1 < k + f → OK μ (itF k a) (putS S 0 a) 0 → (∀ μ, OK μ (itF (lim + 1) a) (putS S 0 a) 0 → Xj K 8 0 0 "DyeTankLaw" method_9_code 10 146 [zR (0, 0, 0), zI v, zI (nI b), zI (nI M), zI w, zI (a 1), zN, zN, zN, zN] [] μ E 0 0) → Xj K 8 0 0 "DyeTankLaw" method_9_code 10 38 [zR (0, 0, 0), zI v, zI (nI b), zI (nI M), zI w, zI (a 1), zI (nI k), zN, zN, zN] [] μ E 0 0 := by
    intro f
    induction f with
    | zero => intro k μ h1 h2 h3 h4; exact absurd ‹_ < _ + 0› (by omega)
    | succ f ih =>
      intro k μ hk1 hk2 hb2 hend
      have hF2 := hb2.2.1
      have hwb := hw.it hF k (by omega) (by omega)
      have enx : itF (k + 1) a = tickF (itF k a) := rfl
      have ih2 := ih (k + 1)
      have hq := hiff k
      rw [enx] at ih2
      have en : rN (itF k a) = rN a := it_N a k
      have hs := calm_sett hF2 (b := b) (by omega)
      rw [en] at hs
      have hkend : k = lim + 1 → OK μ (itF (lim + 1) a) (putS S 0 a) 0 := fun e => by rw [← e]; exact hb2
      generalize itF k a = c at hb2 hF2 hwb en ih2 hq hs hkend
      generalize hn : rN a = n at hn2 hn12 en hq hs
      have hIB := Full_IB hF2
      have go : Xj K 8 0 0 "DyeTankLaw" method_9_code 10 51 [zR (0, 0, 0), zI v, zI (nI b), zI (nI M), zI w, zI (a 1), zI (nI k), zN, zN, zN] [zI (nI lim), zI (nI k)] μ E 0 0 := by
        refine j_icmp_gt (tgt := 146) dL_settled_51 (by decide) (fun hd => ?_) (fun hd => ?_)
        · have hd := nlt hd
          refine j_less (ls' := [zR (0, 0, 0), zI v, zI (nI b), zI (nI M), zI w, zI (a 1), zN, zN, zN, zN]) (by repeat' constructor) ?_
          exact hend μ (hkend (by omega))
        · have hd := nnlt hd
          refine j_iconst (v := 1) dL_settled_54 (by decide) ?_
          refine j_istore dL_settled_55 (by decide) rfl ?_
          refine j_iconst (v := 0) dL_settled_57 (by decide) ?_
          refine j_istore dL_settled_58 (by decide) rfl ?_
          have inner : ∀ (f r : Nat), r ≤ n → n < r + f → Xj K 8 0 0 "DyeTankLaw" method_9_code 10 115 [zR (0, 0, 0), zI v, zI (nI b), zI (nI M), zI w, zI (a 1), zI (nI k), zI (calmI (calmQ c (nI b)) n), zN, zN] [] μ E 0 0 → Xj K 8 0 0 "DyeTankLaw" method_9_code 10 60 [zR (0, 0, 0), zI v, zI (nI b), zI (nI M), zI w, zI (a 1), zI (nI k), zI (calmI (calmQ c (nI b)) r), zI (nI r), zN] [] μ E 0 0 := by
            intro f
            induction f with
            | zero => intro r h1 h2 h3; exact absurd ‹_ < _ + 0› (by omega)
            | succ f ih =>
              intro r hr1 hr2 hend2
              refine j_iload dL_settled_60 rfl ?_
              refine j_aload_n dL_settled_62 rfl rfl ?_
              refine j_iconst (v := 1) dL_settled_63 (by decide) ?_
              refine j_cVi (o_state hb2 1) q_X3_state tw_196 dL_settled_64 rfl rfl rfl (by omega) (Nat.le_of_ble_eq_true rfl) (by omega) (by omega) ?_ zv_0
              refine j_top ((st_1.trans (hIB.1.trans (congrArg nI en)))) ?_
              refine j_icmp_ge (tgt := 115) dL_settled_67 (by decide) (fun hr => ?_) (fun hr => ?_)
              · have hr := nle hr
                have e : r = n := by omega
                subst e
                refine j_less (ls' := [zR (0, 0, 0), zI v, zI (nI b), zI (nI M), zI w, zI (a 1), zI (nI k), zI (calmI (calmQ c (nI b)) r), zN, zN]) (by repeat' constructor) ?_
                exact hend2
              · have hr := nnle hr
                refine j_aload_n dL_settled_70 rfl rfl ?_
                refine j_iload dL_settled_71 rfl ?_
                refine j_iconst (v := 0) dL_settled_73 (by decide) ?_
                refine j_cVi (o_ring hb2 _ _) q_X3_ring tw_228 dL_settled_74 rfl rfl rfl (by omega) (Nat.le_of_ble_eq_true rfl) (by omega) (by omega) ?_ zv_0
                refine j_top ((rv_vel en hr hn12)) ?_
                refine j_aload_n dL_settled_77 rfl rfl ?_
                refine j_bipush (v := 10) dL_settled_78 (by decide) ?_
                refine j_cVi (o_state hb2 10) q_X3_state tw_196 dL_settled_80 rfl rfl rfl (by omega) (Nat.le_of_ble_eq_true rfl) (by omega) (by omega) ?_ zv_0
                refine j_top (st_10) ?_
                refine j_isub dL_settled_83 ?_
                refine j_istore dL_settled_84 (by decide) rfl ?_
                have j106 : Xj K 8 0 0 "DyeTankLaw" method_9_code 10 106 [zR (0, 0, 0), zI v, zI (nI b), zI (nI M), zI w, zI (a 1), zI (nI k), zI (calmI (calmQ c (nI b)) r), zI (nI r), zI (vel (aP c) r - aS c 4)] [zI (if calmQ c (nI b) r = true then 1 else 0), zI (calmI (calmQ c (nI b)) r)] μ E 0 0 := by
                  refine j_iand dL_settled_106 ?_
                  refine j_istore dL_settled_107 (by decide) rfl ?_
                  refine j_iinc dL_settled_109 rfl (inc1 _) (by decide) rfl ?_
                  refine j_goto (tgt := 60) dL_settled_112 (by decide) ?_
                  refine j_less (ls' := [zR (0, 0, 0), zI v, zI (nI b), zI (nI M), zI w, zI (a 1), zI (nI k), zI (calmI (calmQ c (nI b)) (r + 1)), zI (nI (r + 1)), zN]) (by repeat' constructor) ?_
                  exact ih (r + 1) (by omega) (by omega) hend2
                refine j_iload dL_settled_86 rfl ?_
                refine j_iload dL_settled_88 rfl ?_
                refine j_iload_n dL_settled_90 rfl rfl ?_
                refine j_icmp_gt (tgt := 105) dL_settled_91 (by decide) (fun c1 => ?_) (fun c1 => ?_)
                · refine j_iconst (v := 0) dL_settled_105 (by decide) ?_
                  refine j_top ((show (0 : Int32) = (if calmQ c (nI b) r = true then 1 else 0) by rw [if_neg]; unfold calmQ; rw [decide_eq_true_iff]; exact fun z => absurd c1 (Int32.not_lt.mpr z.1))) ?_
                  exact j106
                · refine j_iload dL_settled_94 rfl ?_
                  refine j_ineg dL_settled_96 ?_
                  refine j_iload_n dL_settled_97 rfl rfl ?_
                  refine j_icmp_gt (tgt := 105) dL_settled_98 (by decide) (fun c2 => ?_) (fun c2 => ?_)
                  · refine j_iconst (v := 0) dL_settled_105 (by decide) ?_
                    refine j_top ((show (0 : Int32) = (if calmQ c (nI b) r = true then 1 else 0) by rw [if_neg]; unfold calmQ; rw [decide_eq_true_iff]; exact fun z => absurd c2 (Int32.not_lt.mpr z.2))) ?_
                    exact j106
                  · refine j_iconst (v := 1) dL_settled_101 (by decide) ?_
                    refine j_goto (tgt := 106) dL_settled_102 (by decide) ?_
                    refine j_top ((show (1 : Int32) = (if calmQ c (nI b) r = true then 1 else 0) by rw [if_pos]; unfold calmQ; rw [decide_eq_true_iff]; exact ⟨Int32.not_lt.mp c1, Int32.not_lt.mp c2⟩)) ?_
                    exact j106
          refine inner (n + 1) 0 (by omega) (by omega) ?_
          have back : Xj K 8 0 0 "DyeTankLaw" method_9_code 10 134 [zR (0, 0, 0), zI v, zI (nI b), zI (nI M), zI w, zI (a 1), zI (nI k), zI (calmI (calmQ c (nI b)) n), zN, zN] [] μ E 0 0 := by
            refine j_aload_n dL_settled_134 rfl rfl ?_
            refine j_iconst (v := 1) dL_settled_135 (by decide) ?_
            refine j_cVs (g_tick hb2 (M := 1) hwb.1 (by omega) (by omega)) q_X3_tick tw_268 dL_settled_136 rfl rfl rfl (by omega) (Nat.le_of_ble_eq_true rfl) (by omega) (by omega) (fun μ3 w3 ⟨_, h3⟩ => ?_) zv_0
            refine j_pop dL_settled_139 rfl ?_
            refine j_iinc dL_settled_140 rfl (inc1 _) (by decide) rfl ?_
            refine j_goto (tgt := 38) dL_settled_143 (by decide) ?_
            refine j_less (ls' := [zR (0, 0, 0), zI v, zI (nI b), zI (nI M), zI w, zI (a 1), zI (nI (k + 1)), zN, zN, zN]) (by repeat' constructor) ?_
            exact ih2 μ3 (by omega) (by omega) h3 hend
          have hkw : calmI (calmQ c (nI b)) n = (if nI k = w then 1 else 0) := by
            rcases calm_eq (calmQ c (nI b)) n with ⟨e, z⟩ | ⟨e, z⟩
            · rw [e, if_pos ((hq hd).mp (hs.mpr z))]
            · rw [e, if_neg (fun q => z (hs.mp ((hq hd).mpr q)))]
          refine j_iload dL_settled_115 rfl ?_
          refine j_iload dL_settled_117 rfl ?_
          refine j_iload dL_settled_119 rfl ?_
          refine j_icmp_ne (tgt := 128) dL_settled_121 (by decide) (fun hkn => ?_) (fun hkn => ?_)
          · rw [if_neg hkn] at hkw
            refine j_iconst (v := 0) dL_settled_128 (by decide) ?_
            refine j_icmp_eq (tgt := 134) dL_settled_129 (by decide) (fun _ => ?_) (fun h9 => absurd (hkw) h9)
            exact back
          · rw [if_pos hkn] at hkw
            refine j_iconst (v := 1) dL_settled_124 (by decide) ?_
            refine j_goto (tgt := 129) dL_settled_125 (by decide) ?_
            refine j_icmp_eq (tgt := 134) dL_settled_129 (by decide) (fun _ => ?_) (fun h9 => absurd (hkw) h9)
            exact back
      refine j_iload dL_settled_38 rfl ?_
      refine j_iload dL_settled_40 rfl ?_
      rcases hcase with ⟨h0, e⟩ | ⟨h0, e⟩
      · refine j_if_ge (tgt := 49) dL_settled_42 (by decide) (fun _ => ?_) (fun h9 => absurd (h0) h9)
        refine j_iload dL_settled_49 rfl ?_
        refine j_top (e) ?_
        exact go
      · refine j_if_ge (tgt := 49) dL_settled_42 (by decide) (fun h9 => absurd h9 (h0)) (fun _ => ?_)
        refine j_iload_n dL_settled_45 rfl rfl ?_
        refine j_goto (tgt := 51) dL_settled_46 (by decide) ?_
        refine j_top ((congrArg nI e.symm)) ?_
        exact go
  refine loop (lim + 2) 0 μ2 (by omega) (by omega) h2 (fun μ3 h3 => ?_)
  refine j_aload_n dL_settled_146 rfl rfl ?_
  refine j_iconst (v := 0) dL_settled_147 (by decide) ?_
  refine j_cVs (g_restore h3 (i := 0) (by omega) (putS_eq S 0 a)) q_X3_restore tw_450 dL_settled_148 rfl rfl rfl (by omega) (Nat.le_of_ble_eq_true rfl) (by omega) (by omega) (fun μ4 w4 ⟨ew4, h4⟩ => ?_) zv_0
  subst ew4
  refine j_iload dL_settled_151 rfl ?_
  refine j_icmp_ne (tgt := 171) dL_settled_153 (by decide) (fun h9 => absurd h9 (fun q => q rfl)) (fun _ => ?_)
  refine j_aload_n dL_settled_156 rfl rfl ?_
  refine j_iload_n dL_settled_157 rfl rfl ?_
  refine j_iload_n dL_settled_158 rfl rfl ?_
  refine j_cVs (g_settles h4 (b := b) (M := M) (by omega) (by omega)) q_X3_settles tw_457 dL_settled_159 rfl rfl rfl (by omega) (Nat.le_of_ble_eq_true rfl) (by omega) (by omega) (fun μ5 w5 ⟨hf5, h5⟩ => ?_) zv_0
  refine j_iload dL_settled_162 rfl ?_
  refine j_icmp_ne (tgt := 171) dL_settled_164 (by decide) (fun h9 => absurd h9 (fun q => q (FST_same hf5 hf))) (fun _ => ?_)
  refine j_iconst (v := 1) dL_settled_167 (by decide) ?_
  refine j_goto (tgt := 172) dL_settled_168 (by decide) ?_
  refine j_bret hR dL_settled_172 (Or.inr rfl) (⟨rfl, rfl, _, h5⟩) (by omega) (by omega)
