/-! texts: a step and the whole text, as the reference reads them -/
def stepP (ch : Nat → Int32) (s : Nat) : Nat × Bool × List Int32 :=
  if ch s = 116 then ((mNum ch 1 999 (s + 1) false).2.1, (mNum ch 1 999 (s + 1) false).2.2, [116, (mNum ch 1 999 (s + 1) false).1])
  else if ch s = 118 then ((velP ch (s + 1) false).1, (velP ch (s + 1) false).2.1, [118, (velP ch (s + 1) false).2.2.1, (velP ch (s + 1) false).2.2.2])
  else if ch s = 100 then ((dyeP ch (s + 1) false).1, (dyeP ch (s + 1) false).2.1, [100, (dyeP ch (s + 1) false).2.2.1, (dyeP ch (s + 1) false).2.2.2.1, (dyeP ch (s + 1) false).2.2.2.2.1, (dyeP ch (s + 1) false).2.2.2.2.2.1, (dyeP ch (s + 1) false).2.2.2.2.2.2])
  else (s, true, [])
theorem mOne_w (ch : Nat → Int32) (lo hi : Int32) (s : Nat) : mOne ch lo hi s true = (s, true) := if_pos (Or.inl rfl)
theorem mNeed_w (ch : Nat → Int32) (c : Int32) (s : Nat) : mNeed ch c s true = (s, true) := if_pos (Or.inl rfl)
theorem mNum_w (ch : Nat → Int32) (lo hi : Int32) (s : Nat) : mNum ch lo hi s true = (0, s, true) := if_pos (Or.inl rfl)
theorem dyeP_w (ch : Nat → Int32) (s : Nat) : (dyeP ch s true).1 = s ∧ (dyeP ch s true).2.1 = true := by
  have e : dyeP ch s true = (s, true, ch s - 97, ch s - 94, 0, 0, 0) := by
    unfold dyeP
    simp only [mOne_w, mNeed_w, mNum_w]
  rw [e]
  exact ⟨rfl, rfl⟩
theorem m_takeStep (μ : zM) {l s k : Nat} (h : PSt μ l s false k) (hl : l ≤ 60) (hs : s ≤ l) (hk : k ≤ 30) : zCv yX4_takeStep prog_6_method_63_code 3 (none : Option Jvm.ClassFile.FieldType) 4 [zR (20, 0, 0)] μ (fun μ' => zoff [(20, 0, 0), (28, 0, 0)] μ μ' ∧ PSt μ' l (stepP (chr (μ (27, 0, 0)) l) s).1 (stepP (chr (μ (27, 0, 0)) l) s).2.1 (k + 1) ∧ (∀ j, j < 6 * k → μ' (28, 0, 0) j = μ (28, 0, 0) j) ∧ ((stepP (chr (μ (27, 0, 0)) l) s).2.1 = false → ∀ j, j < (stepP (chr (μ (27, 0, 0)) l) s).2.2.length → μ' (28, 0, 0) (6 * k + j) = (stepP (chr (μ (27, 0, 0)) l) s).2.2.getD j 0)) := by
  have h' := h
  obtain ⟨h7, h8, h9, h11⟩ := h
  refine zCt.of "DyeTankModel" rfl (by decide +kernel) rfl (Nat.le_of_ble_eq_true rfl) (fun K hR => ?_)
  have v20 := zv_20
  have v21 := zv_21
  have v22 := zv_22
  have v23 := zv_23
  have v24 := zv_24
  have v25 := zv_25
  have v26 := zv_26
  have v27 := zv_27
  have v28 := zv_28
  generalize hch : chr (μ (27, 0, 0)) l = ch at hR ⊢
  have close : ∀ (s2 : Nat) (w2 : Bool) (q : zV) (μ2 : zM), zoff [(20, 0, 0), (28, 0, 0)] μ μ2 → PSt μ2 l s2 w2 k → s2 = (stepP ch s).1 → w2 = (stepP ch s).2.1 → (∀ j, j < 6 * k → μ2 (28, 0, 0) j = μ (28, 0, 0) j) → ((stepP ch s).2.1 = false → ∀ j, j < (stepP ch s).2.2.length → μ2 (28, 0, 0) (6 * k + j) = (stepP ch s).2.2.getD j 0) → Z K 4 "DyeTankModel" prog_6_method_63_code 3 119 [zR (20, 0, 0), zI (nI (6 * k)), q] [] μ2 := by
    intro s2 w2 q μ2 ho hP e1 e2 hlo hst
    obtain ⟨g7, g8, g9, g11⟩ := hP
    refine z_aload_n dX4_takeStep_119 rfl rfl ?_
    refine z_dup dX4_takeStep_120 rfl ?_
    refine zg_X4_stepMany dX4_takeStep_121 tw_563 ?_
    refine z_top ((show _ = nI k from g11)) ?_
    refine z_iconst (v := 1) dX4_takeStep_124 (by decide) ?_
    refine z_iadd dX4_takeStep_125 ?_
    refine z_top ((nI_1 k)) ?_
    refine zp_X4_stepMany dX4_takeStep_126 tw_563 ?_
    refine z_vret hR dX4_takeStep_129 (⟨rfl, ho.put (by simp) _, ?_, ?_, ?_⟩)
    · rw [PSt, st_eq, ← e1, ← e2]
      exact ⟨g7, g8, g9, rfl⟩
    · rw [st_ne _ _ (by simp)]
      exact hlo
    · rw [st_ne _ _ (by simp)]
      exact hst
  refine z_ls (ls' := [zR (20, 0, 0), zN, zN]) rfl ?_
  refine z_bipush (v := 6) dX4_takeStep_0 (by decide) ?_
  refine z_aload_n dX4_takeStep_2 rfl rfl ?_
  refine zg_X4_stepMany dX4_takeStep_3 tw_563 ?_
  refine z_top ((show _ = nI k from h11)) ?_
  refine z_imul dX4_takeStep_6 ?_
  refine z_top ((pk_mul 6 k)) ?_
  refine z_istS_n dX4_takeStep_7 rfl (by decide) rfl ?_
  refine z_aload_n dX4_takeStep_8 rfl rfl ?_
  refine z_cVi (m_next μ h' hl (by omega)) q_X4_next tw_817 dX4_takeStep_9 rfl rfl rfl (by omega) (Nat.le_of_ble_eq_true rfl) ?_
  rw [hch]
  have good : (ch s = 116 ∨ ch s = 118 ∨ ch s = 100) → ∀ (k2 : ∀ ν : zM, zoff [(20, 0, 0), (28, 0, 0)] μ ν → PSt ν l (s + 1) false k → ν (28, 0, 0) = upd (μ (28, 0, 0)) (6 * k) (ch s) → Z K 4 "DyeTankModel" prog_6_method_63_code 3 75 [zR (20, 0, 0), zI (nI (6 * k)), zI (ch s)] [] ν), Z K 4 "DyeTankModel" prog_6_method_63_code 3 43 [zR (20, 0, 0), zI (nI (6 * k)), zI (ch s)] [zR (20, 0, 0)] μ := by
    intro _ k2
    refine z_iconst (v := 0) dX4_takeStep_43 (by decide) ?_
    refine zp_X4_isWrong dX4_takeStep_44 tw_561 rfl rfl ?_
    refine z_aload_n dX4_takeStep_47 rfl rfl ?_
    refine zg_X4_steps dX4_takeStep_48 tw_562 ?_
    refine z_iload_n dX4_takeStep_51 rfl rfl ?_
    refine z_iload_n dX4_takeStep_52 rfl rfl ?_
    refine z_iast dX4_takeStep_53 (fun _ _ => rfl) rfl (show 6 * k < 192 by omega) ?_
    refine z_aload_n dX4_takeStep_54 rfl rfl ?_
    refine z_dup dX4_takeStep_55 rfl ?_
    refine zg_X4_spot dX4_takeStep_56 tw_560 ?_
    rw [st_ne _ _ (by simp), st_eq]
    refine z_top ((show upd (μ (20, 0, 0)) 9 0 8 = nI s from h8)) ?_
    refine z_aload_n dX4_takeStep_59 rfl rfl ?_
    refine zg_X4_isWrong dX4_takeStep_60 tw_561 ?_
    rw [st_ne _ _ (by simp), st_eq]
    refine z_top ((show upd (μ (20, 0, 0)) 9 0 9 = zb (false = true) from if_pos rfl)) ?_
    refine z_if_eq (tgt := 70) dX4_takeStep_63 (by decide) (fun _ => ?_) (fun h9 => absurd (rfl) h9)
    refine z_iconst (v := 1) dX4_takeStep_70 (by decide) ?_
    refine z_iadd dX4_takeStep_71 ?_
    refine z_top ((nI_1 s)) ?_
    refine zp_X4_spot dX4_takeStep_72 tw_560 ?_
    refine k2 _ (((zoff.rf.put (by simp) _).put (by simp) _).put (by simp) _) ?_ ?_
    · rw [PSt, st_eq, st_ne _ _ (by simp), st_eq]
      exact ⟨h7, rfl, rfl, h11⟩
    · rw [st_ne _ _ (by simp), st_eq, st_ne _ _ (by simp)]
  have bad : ∀ (k2 : ∀ ν : zM, zoff [(20, 0, 0), (28, 0, 0)] μ ν → PSt ν l s true k → (∀ j, j < 6 * k → ν (28, 0, 0) j = μ (28, 0, 0) j) → Z K 4 "DyeTankModel" prog_6_method_63_code 3 75 [zR (20, 0, 0), zI (nI (6 * k)), zI (ch s)] [] ν), Z K 4 "DyeTankModel" prog_6_method_63_code 3 39 [zR (20, 0, 0), zI (nI (6 * k)), zI (ch s)] [zR (20, 0, 0)] μ := by
    intro k2
    refine z_iconst (v := 1) dX4_takeStep_39 (by decide) ?_
    refine z_goto (tgt := 44) dX4_takeStep_40 (by decide) ?_
    refine zp_X4_isWrong dX4_takeStep_44 tw_561 rfl rfl ?_
    refine z_aload_n dX4_takeStep_47 rfl rfl ?_
    refine zg_X4_steps dX4_takeStep_48 tw_562 ?_
    refine z_iload_n dX4_takeStep_51 rfl rfl ?_
    refine z_iload_n dX4_takeStep_52 rfl rfl ?_
    refine z_iast dX4_takeStep_53 (fun _ _ => rfl) rfl (show 6 * k < 192 by omega) ?_
    refine z_aload_n dX4_takeStep_54 rfl rfl ?_
    refine z_dup dX4_takeStep_55 rfl ?_
    refine zg_X4_spot dX4_takeStep_56 tw_560 ?_
    rw [st_ne _ _ (by simp), st_eq]
    refine z_top ((show upd (μ (20, 0, 0)) 9 1 8 = nI s from h8)) ?_
    refine z_aload_n dX4_takeStep_59 rfl rfl ?_
    refine zg_X4_isWrong dX4_takeStep_60 tw_561 ?_
    rw [st_ne _ _ (by simp), st_eq]
    refine z_top ((show upd (μ (20, 0, 0)) 9 1 9 = zb (true = true) from if_pos rfl)) ?_
    refine z_if_eq (tgt := 70) dX4_takeStep_63 (by decide) (fun h9 => absurd h9 (by decide)) (fun _ => ?_)
    refine z_iconst (v := 0) dX4_takeStep_66 (by decide) ?_
    refine z_goto (tgt := 71) dX4_takeStep_67 (by decide) ?_
    refine z_iadd dX4_takeStep_71 ?_
    refine z_top ((Int32.add_zero (nI s))) ?_
    refine zp_X4_spot dX4_takeStep_72 tw_560 ?_
    refine k2 _ (((zoff.rf.put (by simp) _).put (by simp) _).put (by simp) _) ?_ ?_
    · rw [PSt, st_eq, st_ne _ _ (by simp), st_eq]
      exact ⟨h7, rfl, rfl, h11⟩
    · intro j hj
      rw [st_ne _ _ (by simp), st_eq, st_ne _ _ (by simp)]
      exact if_neg (by omega)
  refine z_istS_n dX4_takeStep_12 rfl (by decide) rfl ?_
  refine z_aload_n dX4_takeStep_13 rfl rfl ?_
  refine z_aload_n dX4_takeStep_14 rfl rfl ?_
  refine zg_X4_isWrong dX4_takeStep_15 tw_561 ?_
  refine z_top ((show _ = zb (false = true) from h9)) ?_
  refine z_if_ne (tgt := 39) dX4_takeStep_18 (by decide) (fun h9 => absurd h9 (by decide)) (fun _ => ?_)
  refine z_iload_n dX4_takeStep_21 rfl rfl ?_
  refine z_bipush (v := 116) dX4_takeStep_22 (by decide) ?_
  have lo6 : ∀ (ν : zM) (f : Nat → Int32), ν (28, 0, 0) = upd (μ (28, 0, 0)) (6 * k) (ch s) → True := fun _ _ _ => trivial
  refine z_icmp_eq (tgt := 43) dX4_takeStep_24 (by decide) (fun h1 => ?_) (fun h1 => ?_)
  · have eS : stepP ch s = ((mNum ch 1 999 (s + 1) false).2.1, (mNum ch 1 999 (s + 1) false).2.2, [116, (mNum ch 1 999 (s + 1) false).1]) := if_pos h1
    have hlt : s < l := chr_ne (p := μ (27, 0, 0)) (c := 116) (by rw [hch]; exact h1) (by decide)
    refine good (Or.inl h1) (fun ν ho hP r28 => ?_)
    have e27 : chr (ν (27, 0, 0)) l = ch := by rw [ho.at (27, 0, 0), hch]
    refine z_iload_n dX4_takeStep_75 rfl rfl ?_
    refine z_bipush (v := 116) dX4_takeStep_76 (by decide) ?_
    refine z_icmp_ne (tgt := 100) dX4_takeStep_78 (by decide) (fun h9 => absurd h9 (Decidable.not_not.mpr h1)) (fun _ => ?_)
    refine z_aload_n dX4_takeStep_81 rfl rfl ?_
    refine zg_X4_steps dX4_takeStep_82 tw_562 ?_
    refine z_iload_n dX4_takeStep_85 rfl rfl ?_
    refine z_iconst (v := 1) dX4_takeStep_86 (by decide) ?_
    refine z_iadd dX4_takeStep_87 ?_
    refine z_aload_n dX4_takeStep_88 rfl rfl ?_
    refine z_iconst (v := 1) dX4_takeStep_89 (by decide) ?_
    refine z_sipush (v := 999) dX4_takeStep_90 (by decide) ?_
    refine z_cVs (m_takeNumber ν hP hl (by omega) 1 999) q_X4_takeNumber tw_821 dX4_takeStep_93 rfl rfl rfl (by omega) (Nat.le_of_ble_eq_true rfl) (fun μ2 x2 hh => ?_)
    rw [e27] at hh
    obtain ⟨e2, o2, p2⟩ := hh
    refine z_iast dX4_takeStep_96 (fun _ _ => rfl) (nI_add (6 * k) 1) (show 6 * k + 1 < 192 by omega) ?_
    refine z_goto (tgt := 119) dX4_takeStep_97 (by decide) ?_
    refine close _ _ _ _ ((zoff.tr ho o2 (by simp)).put (by simp) _) (p2.off28 _) (by rw [eS]) (by rw [eS]) ?_ ?_
    · intro j hj
      rw [st_eq, o2.at (28, 0, 0), r28]
      unfold upd
      rw [if_neg (by omega), if_neg (by omega)]
    · rw [eS]
      intro _ j hj
      have hj2 : j < 2 := hj
      rw [st_eq, o2.at (28, 0, 0), r28, e2, h1]
      rcases (show j = 0 ∨ j = 1 by omega) with e | e <;> subst e
      · unfold upd
        rw [if_neg (by omega), if_pos (show 6 * k + 0 = 6 * k from rfl)]
        rfl
      · exact if_pos rfl
  · refine z_iload_n dX4_takeStep_27 rfl rfl ?_
    refine z_bipush (v := 118) dX4_takeStep_28 (by decide) ?_
    refine z_icmp_eq (tgt := 43) dX4_takeStep_30 (by decide) (fun h2 => ?_) (fun h2 => ?_)
    · have eS : stepP ch s = ((velP ch (s + 1) false).1, (velP ch (s + 1) false).2.1, [118, (velP ch (s + 1) false).2.2.1, (velP ch (s + 1) false).2.2.2]) := (if_neg h1).trans (if_pos h2)
      have hlt : s < l := chr_ne (p := μ (27, 0, 0)) (c := 118) (by rw [hch]; exact h2) (by decide)
      refine good (Or.inr (Or.inl h2)) (fun ν ho hP r28 => ?_)
      have e27 : chr (ν (27, 0, 0)) l = ch := by rw [ho.at (27, 0, 0), hch]
      refine z_iload_n dX4_takeStep_75 rfl rfl ?_
      refine z_bipush (v := 116) dX4_takeStep_76 (by decide) ?_
      refine z_icmp_ne (tgt := 100) dX4_takeStep_78 (by decide) (fun _ => ?_) (fun h9 => absurd h9 (h1))
      refine z_iload_n dX4_takeStep_100 rfl rfl ?_
      refine z_bipush (v := 118) dX4_takeStep_101 (by decide) ?_
      refine z_icmp_ne (tgt := 114) dX4_takeStep_103 (by decide) (fun h9 => absurd h9 (Decidable.not_not.mpr h2)) (fun _ => ?_)
      refine z_aload_n dX4_takeStep_106 rfl rfl ?_
      refine z_iload_n dX4_takeStep_107 rfl rfl ?_
      refine z_cVv (m_takeVelocity ν hP hl (by omega) (6 * k) (by omega)) q_X4_takeVelocity tw_825 dX4_takeStep_108 rfl rfl rfl (by omega) (Nat.le_of_ble_eq_true rfl) (fun μ2 hh => ?_)
      refine z_goto (tgt := 119) dX4_takeStep_111 (by decide) ?_
      rw [e27] at hh
      obtain ⟨o2, p2, r2⟩ := hh
      refine close _ _ _ _ (zoff.tr ho o2 (by simp)) p2 (by rw [eS]) (by rw [eS]) ?_ ?_
      · intro j hj
        rw [r2, r28]
        unfold upd
        rw [if_neg (by omega), if_neg (by omega), if_neg (by omega)]
      · rw [eS]
        intro _ j hj
        have hj2 : j < 3 := hj
        rw [r2, r28, h2]
        rcases (show j = 0 ∨ j = 1 ∨ j = 2 by omega) with e | e | e <;> subst e <;> unfold upd
        · rw [if_neg (by omega), if_neg (by omega), if_pos (show 6 * k + 0 = 6 * k from rfl)]
          rfl
        · rw [if_neg (by omega), if_pos rfl]
          rfl
        · rw [if_pos rfl]
          rfl
    · refine z_iload_n dX4_takeStep_33 rfl rfl ?_
      refine z_bipush (v := 100) dX4_takeStep_34 (by decide) ?_
      refine z_icmp_eq (tgt := 43) dX4_takeStep_36 (by decide) (fun h3 => ?_) (fun h3 => ?_)
      · have eS : stepP ch s = ((dyeP ch (s + 1) false).1, (dyeP ch (s + 1) false).2.1, [100, (dyeP ch (s + 1) false).2.2.1, (dyeP ch (s + 1) false).2.2.2.1, (dyeP ch (s + 1) false).2.2.2.2.1, (dyeP ch (s + 1) false).2.2.2.2.2.1, (dyeP ch (s + 1) false).2.2.2.2.2.2]) := (if_neg h1).trans ((if_neg h2).trans (if_pos h3))
        have hlt : s < l := chr_ne (p := μ (27, 0, 0)) (c := 100) (by rw [hch]; exact h3) (by decide)
        refine good (Or.inr (Or.inr h3)) (fun ν ho hP r28 => ?_)
        have e27 : chr (ν (27, 0, 0)) l = ch := by rw [ho.at (27, 0, 0), hch]
        refine z_iload_n dX4_takeStep_75 rfl rfl ?_
        refine z_bipush (v := 116) dX4_takeStep_76 (by decide) ?_
        refine z_icmp_ne (tgt := 100) dX4_takeStep_78 (by decide) (fun _ => ?_) (fun h9 => absurd h9 (h1))
        refine z_iload_n dX4_takeStep_100 rfl rfl ?_
        refine z_bipush (v := 118) dX4_takeStep_101 (by decide) ?_
        refine z_icmp_ne (tgt := 114) dX4_takeStep_103 (by decide) (fun _ => ?_) (fun h9 => absurd h9 (h2))
        refine z_aload_n dX4_takeStep_114 rfl rfl ?_
        refine z_iload_n dX4_takeStep_115 rfl rfl ?_
        refine z_cVv (m_takeDye ν hP hl (by omega) (6 * k) (by omega)) q_X4_takeDye tw_833 dX4_takeStep_116 rfl rfl rfl (by omega) (Nat.le_of_ble_eq_true rfl) (fun μ2 hh => ?_)
        rw [e27] at hh
        obtain ⟨o2, p2, r2⟩ := hh
        refine close _ _ _ _ (zoff.tr ho o2 (by simp)) p2 (by rw [eS]) (by rw [eS]) ?_ ?_
        · intro j hj
          rw [r2, r28]
          unfold upd
          rw [if_neg (by omega), if_neg (by omega), if_neg (by omega), if_neg (by omega), if_neg (by omega), if_neg (by omega)]
        · rw [eS]
          intro _ j hj
          have hj2 : j < 6 := hj
          rw [r2, r28, h3]
          rcases (show j = 0 ∨ j = 1 ∨ j = 2 ∨ j = 3 ∨ j = 4 ∨ j = 5 by omega) with e | e | e | e | e | e <;> subst e <;> unfold upd
          · rw [if_neg (by omega), if_neg (by omega), if_neg (by omega), if_neg (by omega), if_neg (by omega), if_pos (show 6 * k + 0 = 6 * k from rfl)]
            rfl
          · rw [if_neg (by omega), if_neg (by omega), if_neg (by omega), if_neg (by omega), if_pos rfl]
            rfl
          · rw [if_neg (by omega), if_neg (by omega), if_neg (by omega), if_pos rfl]
            rfl
          · rw [if_neg (by omega), if_neg (by omega), if_pos rfl]
            rfl
          · rw [if_neg (by omega), if_pos rfl]
            rfl
          · rw [if_pos rfl]
            rfl
      · have eS : stepP ch s = (s, true, []) := (if_neg h1).trans ((if_neg h2).trans (if_neg h3))
        refine bad (fun ν ho hP r28 => ?_)
        have e27 : chr (ν (27, 0, 0)) l = ch := by rw [ho.at (27, 0, 0), hch]
        refine z_iload_n dX4_takeStep_75 rfl rfl ?_
        refine z_bipush (v := 116) dX4_takeStep_76 (by decide) ?_
        refine z_icmp_ne (tgt := 100) dX4_takeStep_78 (by decide) (fun _ => ?_) (fun h9 => absurd h9 (h1))
        refine z_iload_n dX4_takeStep_100 rfl rfl ?_
        refine z_bipush (v := 118) dX4_takeStep_101 (by decide) ?_
        refine z_icmp_ne (tgt := 114) dX4_takeStep_103 (by decide) (fun _ => ?_) (fun h9 => absurd h9 (h2))
        refine z_aload_n dX4_takeStep_114 rfl rfl ?_
        refine z_iload_n dX4_takeStep_115 rfl rfl ?_
        refine z_cVv (m_takeDye ν hP hl (by omega) (6 * k) (by omega)) q_X4_takeDye tw_833 dX4_takeStep_116 rfl rfl rfl (by omega) (Nat.le_of_ble_eq_true rfl) (fun μ2 hh => ?_)
        rw [e27, (dyeP_w ch s).1, (dyeP_w ch s).2] at hh
        obtain ⟨o2, p2, r2⟩ := hh
        refine close _ _ _ _ (zoff.tr ho o2 (by simp)) p2 (by rw [eS]) (by rw [eS]) ?_ ?_
        · intro j hj
          rw [r2]
          unfold upd
          rw [if_neg (by omega), if_neg (by omega), if_neg (by omega), if_neg (by omega), if_neg (by omega)]
          exact r28 j hj
        · rw [eS]
          intro h
          exact absurd (show true = false from h) (by decide)
def txtP (ch : Nat → Int32) : Nat → Nat → Nat × Bool × List (List Int32)
  | 0, s => (s, true, [])
  | f + 1, s => if (stepP ch s).2.1 = false ∧ ch (stepP ch s).1 = 44 then ((txtP ch f ((stepP ch s).1 + 1)).1, (txtP ch f ((stepP ch s).1 + 1)).2.1, (stepP ch s).2.2 :: (txtP ch f ((stepP ch s).1 + 1)).2.2) else ((stepP ch s).1, (stepP ch s).2.1, [(stepP ch s).2.2])
def fauP (ch : Nat → Int32) (l : Nat) : Int32 := if (txtP ch 21 0).2.1 = true ∨ (txtP ch 21 0).1 < l then nI (txtP ch 21 0).1 else -6
def STP (f : Nat → Int32) (Ls : List (List Int32)) : Prop := ∀ (i : Nat) (L : List Int32), Ls[i]? = some L → L.length ≤ 6 ∧ ∀ j, j < L.length → f (6 * i + j) = L.getD j 0
theorem STP_app {f : Nat → Int32} {Ls : List (List Int32)} {L : List Int32} (h : STP f Ls) (h6 : L.length ≤ 6) (h2 : ∀ j, j < L.length → f (6 * Ls.length + j) = L.getD j 0) : STP f (Ls ++ [L]) := by
  intro i L' hi
  rw [List.getElem?_append] at hi
  by_cases q : i < Ls.length
  · rw [if_pos q] at hi
    exact h i L' hi
  · rw [if_neg q] at hi
    by_cases q2 : i - Ls.length = 0
    · rw [q2] at hi
      have e : L = L' := by simpa using hi
      rw [← e]
      rw [show i = Ls.length by omega]
      exact ⟨h6, h2⟩
    · rw [show i - Ls.length = (i - Ls.length - 1) + 1 by omega] at hi
      exact absurd hi (by simp)
theorem numL_ge {ch : Nat → Int32} {m : Int32} : ∀ (f : Nat) (v : Int32) (s : Nat), s ≤ (numL ch m f v s).2
  | 0, v, s => Nat.le_refl s
  | f + 1, v, s => by
    by_cases q : 0 < v ∧ (48 ≤ ch s ∧ ch s ≤ 57) ∧ 10 * v + ch s - 48 ≤ m
    · rw [show numL ch m (f + 1) v s = numL ch m f (10 * v + ch s - 48) (s + 1) from if_pos q]
      have := numL_ge (ch := ch) (m := m) f (10 * v + ch s - 48) (s + 1)
      omega
    · rw [show numL ch m (f + 1) v s = (v, s) from if_neg q]
      exact Nat.le_refl s
theorem mNum_ge {ch : Nat → Int32} {lo hi : Int32} {s : Nat} {w : Bool} : s ≤ (mNum ch lo hi s w).2.1 ∧ ((mNum ch lo hi s w).2.2 = false → s < (mNum ch lo hi s w).2.1) := by
  unfold mNum
  by_cases h : w = true ∨ ¬ (48 + (if 0 < lo then 1 else 0) ≤ ch s ∧ ch s ≤ 57)
  · rw [if_pos h]
    exact ⟨Nat.le_refl s, fun q => absurd (show true = false from q) (by decide)⟩
  · rw [if_neg h]
    have := numL_ge (ch := ch) (m := hi) 61 (ch s - 48) (s + 1)
    exact ⟨by show s ≤ (numL ch hi 61 (ch s - 48) (s + 1)).2; omega, fun _ => this⟩
theorem mNeed_ge {ch : Nat → Int32} {c : Int32} {s : Nat} {w : Bool} : s ≤ (mNeed ch c s w).1 := by
  unfold mNeed
  split
  · exact Nat.le_refl s
  · exact Nat.le_succ s
theorem mOne_ge {ch : Nat → Int32} {lo hi : Int32} {s : Nat} {w : Bool} : s ≤ (mOne ch lo hi s w).1 := by
  unfold mOne
  split
  · exact Nat.le_refl s
  · exact Nat.le_succ s
theorem velP_ge {ch : Nat → Int32} {s : Nat} {w : Bool} : s ≤ (velP ch s w).1 ∧ ((velP ch s w).2.1 = false → s < (velP ch s w).1) := by
  have h1 := (mNum_ge (ch := ch) (lo := 0) (hi := 11) (s := s) (w := w)).1
  have h2 := mNeed_ge (ch := ch) (c := 58) (s := (mNum ch 0 11 s w).2.1) (w := (mNum ch 0 11 s w).2.2)
  have h3 := mNum_ge (ch := ch) (lo := 0) (hi := 1500) (s := (if negV ch (mNeed ch 58 (mNum ch 0 11 s w).2.1 (mNum ch 0 11 s w).2.2) = true then (mNeed ch 58 (mNum ch 0 11 s w).2.1 (mNum ch 0 11 s w).2.2).1 + 1 else (mNeed ch 58 (mNum ch 0 11 s w).2.1 (mNum ch 0 11 s w).2.2).1)) (w := (mNeed ch 58 (mNum ch 0 11 s w).2.1 (mNum ch 0 11 s w).2.2).2)
  have h4 : s ≤ (if negV ch (mNeed ch 58 (mNum ch 0 11 s w).2.1 (mNum ch 0 11 s w).2.2) = true then (mNeed ch 58 (mNum ch 0 11 s w).2.1 (mNum ch 0 11 s w).2.2).1 + 1 else (mNeed ch 58 (mNum ch 0 11 s w).2.1 (mNum ch 0 11 s w).2.2).1) := by split <;> omega
  exact ⟨Nat.le_trans h4 h3.1, fun q => Nat.lt_of_le_of_lt h4 (h3.2 q)⟩
theorem dyeP_ge {ch : Nat → Int32} {s : Nat} {w : Bool} : s ≤ (dyeP ch s w).1 ∧ ((dyeP ch s w).2.1 = false → s < (dyeP ch s w).1) := by
  have h1 := Nat.le_trans (mOne_ge (ch := ch) (lo := 97) (hi := 99) (s := s) (w := w)) (mOne_ge (ch := ch) (lo := 94) (hi := 95) (w := (mOne ch 97 99 s w).2))
  generalize e1 : mOne ch 94 95 (mOne ch 97 99 s w).1 (mOne ch 97 99 s w).2 = y1 at h1
  have h2 := Nat.le_trans (Nat.le_trans h1 (mNum_ge (ch := ch) (lo := 0) (hi := 11) (w := y1.2)).1) (mNeed_ge (ch := ch) (c := 58) (w := (mNum ch 0 11 y1.1 y1.2).2.2))
  generalize e2 : mNeed ch 58 (mNum ch 0 11 y1.1 y1.2).2.1 (mNum ch 0 11 y1.1 y1.2).2.2 = y2 at h2
  have h3 := Nat.le_trans (Nat.le_trans h2 (mNum_ge (ch := ch) (lo := 0) (hi := 23) (w := y2.2)).1) (mNeed_ge (ch := ch) (c := 61) (w := (mNum ch 0 23 y2.1 y2.2).2.2))
  generalize e3 : mNeed ch 61 (mNum ch 0 23 y2.1 y2.2).2.1 (mNum ch 0 23 y2.1 y2.2).2.2 = y3 at h3
  have h4 := mNum_ge (ch := ch) (lo := 1) (hi := 999999) (s := y3.1) (w := y3.2)
  have e : (dyeP ch s w).1 = (mNum ch 1 999999 y3.1 y3.2).2.1 := by rw [← e3, ← e2, ← e1]; rfl
  have e' : (dyeP ch s w).2.1 = (mNum ch 1 999999 y3.1 y3.2).2.2 := by rw [← e3, ← e2, ← e1]; rfl
  rw [e, e']
  exact ⟨Nat.le_trans h3 h4.1, fun q => Nat.lt_of_le_of_lt h3 (h4.2 q)⟩
theorem stepP_ge {ch : Nat → Int32} {s : Nat} (h : (stepP ch s).2.1 = false) : s + 2 ≤ (stepP ch s).1 := by
  by_cases h1 : ch s = 116
  · rw [show stepP ch s = _ from if_pos h1] at h ⊢
    exact mNum_ge.2 h
  · by_cases h2 : ch s = 118
    · rw [show stepP ch s = _ from (if_neg h1).trans (if_pos h2)] at h ⊢
      exact velP_ge.2 h
    · by_cases h3 : ch s = 100
      · rw [show stepP ch s = _ from (if_neg h1).trans ((if_neg h2).trans (if_pos h3))] at h ⊢
        exact dyeP_ge.2 h
      · rw [show stepP ch s = _ from (if_neg h1).trans ((if_neg h2).trans (if_neg h3))] at h
        exact absurd (show true = false from h) (by decide)
theorem stepP_len {ch : Nat → Int32} {s : Nat} : (stepP ch s).2.2.length ≤ 6 := by
  by_cases h1 : ch s = 116
  · rw [show stepP ch s = _ from if_pos h1]
    exact Nat.le_of_ble_eq_true rfl
  · by_cases h2 : ch s = 118
    · rw [show stepP ch s = _ from (if_neg h1).trans (if_pos h2)]
      exact Nat.le_of_ble_eq_true rfl
    · by_cases h3 : ch s = 100
      · rw [show stepP ch s = _ from (if_neg h1).trans ((if_neg h2).trans (if_pos h3))]
        exact Nat.le_of_ble_eq_true rfl
      · rw [show stepP ch s = _ from (if_neg h1).trans ((if_neg h2).trans (if_neg h3))]
        exact Nat.le_of_ble_eq_true rfl
theorem stepP_le {p : Nat → Int32} {l s : Nat} (hs : s ≤ l) : (stepP (chr p l) s).1 ≤ l := by
  by_cases h1 : chr p l s = 116
  · rw [show stepP (chr p l) s = _ from if_pos h1]
    exact mNum_le (chr_ne h1 (by decide))
  · by_cases h2 : chr p l s = 118
    · rw [show stepP (chr p l) s = _ from (if_neg h1).trans (if_pos h2)]
      exact velP_le (chr_ne h2 (by decide))
    · by_cases h3 : chr p l s = 100
      · rw [show stepP (chr p l) s = _ from (if_neg h1).trans ((if_neg h2).trans (if_pos h3))]
        exact dyeP_le (chr_ne h3 (by decide))
      · rw [show stepP (chr p l) s = _ from (if_neg h1).trans ((if_neg h2).trans (if_neg h3))]
        exact hs
theorem m_fault (μ : zM) {l s0 k0 : Nat} {w0 : Bool} (h : PSt μ l s0 w0 k0) (hl : l ≤ 60) : zCs yX4_fault prog_6_method_64_code 1 (some .int) 5 [zR (20, 0, 0)] μ (fun μ' r => r = fauP (chr (μ (27, 0, 0)) l) l ∧ zoff [(20, 0, 0), (28, 0, 0)] μ μ' ∧ (txtP (chr (μ (27, 0, 0)) l) 21 0).2.2.length ≤ 21 ∧ PSt μ' l (txtP (chr (μ (27, 0, 0)) l) 21 0).1 (txtP (chr (μ (27, 0, 0)) l) 21 0).2.1 (txtP (chr (μ (27, 0, 0)) l) 21 0).2.2.length ∧ ((txtP (chr (μ (27, 0, 0)) l) 21 0).2.1 = false → STP (μ' (28, 0, 0)) (txtP (chr (μ (27, 0, 0)) l) 21 0).2.2)) := by
  obtain ⟨h7, h8, h9, h11⟩ := h
  refine zCt.of "DyeTankModel" rfl (by decide +kernel) rfl (Nat.le_of_ble_eq_true rfl) (fun K hR => ?_)
  have v20 := zv_20
  have v21 := zv_21
  have v22 := zv_22
  have v23 := zv_23
  have v24 := zv_24
  have v25 := zv_25
  have v26 := zv_26
  have v27 := zv_27
  have v28 := zv_28
  generalize hch : chr (μ (27, 0, 0)) l = ch at hR ⊢
  have fin : ∀ (s1 : Nat) (w1 : Bool) (Ls : List (List Int32)) (μ' : zM), s1 ≤ l → Ls.length ≤ 21 → zoff [(20, 0, 0), (28, 0, 0)] μ μ' → PSt μ' l s1 w1 Ls.length → (w1 = false → STP (μ' (28, 0, 0)) Ls) → txtP ch 21 0 = (s1, w1, Ls) → Z K 5 "DyeTankModel" prog_6_method_64_code 1 52 [zR (20, 0, 0)] [] μ' := by
    intro s1 w1 Ls μ' h1 h2 ho hP hS hM
    have eF : fauP ch l = if w1 = true ∨ s1 < l then nI s1 else -6 := by unfold fauP; rw [hM]
    have post : ∀ r : Int32, r = (if w1 = true ∨ s1 < l then nI s1 else -6) → (r = fauP ch l ∧ zoff [(20, 0, 0), (28, 0, 0)] μ μ' ∧ (txtP ch 21 0).2.2.length ≤ 21 ∧ PSt μ' l (txtP ch 21 0).1 (txtP ch 21 0).2.1 (txtP ch 21 0).2.2.length ∧ ((txtP ch 21 0).2.1 = false → STP (μ' (28, 0, 0)) (txtP ch 21 0).2.2)) := by
      intro r er
      rw [eF, hM]
      exact ⟨er, ho, h2, hP, hS⟩
    have hP' := hP
    obtain ⟨g7, g8, g9, g11⟩ := hP
    refine z_aload_n dX4_fault_52 rfl rfl ?_
    refine zg_X4_isWrong dX4_fault_53 tw_561 ?_
    refine z_top ((show _ = zb (w1 = true) from g9)) ?_
    refine z_bne (tgt := 70) dX4_fault_56 (by decide) (fun hw => ?_) (fun hw => ?_)
    · refine z_aload_n dX4_fault_70 rfl rfl ?_
      refine zg_X4_spot dX4_fault_71 tw_560 ?_
      refine z_top ((show _ = nI s1 from g8)) ?_
      refine z_goto (tgt := 79) dX4_fault_74 (by decide) ?_
      refine z_iret hR dX4_fault_79 (⟨_, rfl, post _ (if_pos (Or.inl hw)).symm⟩)
    · refine z_aload_n dX4_fault_59 rfl rfl ?_
      refine zg_X4_spot dX4_fault_60 tw_560 ?_
      refine z_top ((show _ = nI s1 from g8)) ?_
      refine z_aload_n dX4_fault_63 rfl rfl ?_
      refine zg_X4_padMany dX4_fault_64 tw_559 ?_
      refine z_top ((show _ = nI l from g7)) ?_
      refine z_icmp_ge (tgt := 77) dX4_fault_67 (by decide) (fun hb => ?_) (fun hb => ?_)
      · have hb := nle hb
        refine z_bipush (v := -6) dX4_fault_77 (by decide) ?_
        refine z_iret hR dX4_fault_79 (⟨_, rfl, post _ (if_neg (fun q => q.elim hw (fun q => absurd q (by omega)))).symm⟩)
      · have hb := nnle hb
        refine z_aload_n dX4_fault_70 rfl rfl ?_
        refine zg_X4_spot dX4_fault_71 tw_560 ?_
        refine z_top ((show _ = nI s1 from g8)) ?_
        refine z_goto (tgt := 79) dX4_fault_74 (by decide) ?_
        refine z_iret hR dX4_fault_79 (⟨_, rfl, post _ (if_pos (Or.inr hb)).symm⟩)
  have loop : ∀ (f s : Nat) (acc : List (List Int32)) (μ' : zM), s ≤ l → 3 * acc.length ≤ s → acc.length + f = 20 → zoff [(20, 0, 0), (28, 0, 0)] μ μ' → PSt μ' l (stepP ch s).1 (stepP ch s).2.1 (acc.length + 1) → STP (μ' (28, 0, 0)) acc → ((stepP ch s).2.1 = false → ∀ j, j < (stepP ch s).2.2.length → μ' (28, 0, 0) (6 * acc.length + j) = (stepP ch s).2.2.getD j 0) → txtP ch 21 0 = ((txtP ch (f + 1) s).1, (txtP ch (f + 1) s).2.1, acc ++ (txtP ch (f + 1) s).2.2) → Z K 5 "DyeTankModel" prog_6_method_64_code 1 19 [zR (20, 0, 0)] [] μ' := by
    intro f
    induction f with
    | zero =>
      intro s acc μ' h1 h2 h3 ho hP hA hS hM
      have hw : (stepP ch s).2.1 = true := by
        by_cases q : (stepP ch s).2.1 = true
        · exact q
        · have := stepP_ge (Bool.eq_false_iff.mpr q)
          have := stepP_le (p := μ (27, 0, 0)) (l := l) (s := s) h1
          rw [hch] at this
          omega
      have eT : txtP ch (0 + 1) s = ((stepP ch s).1, (stepP ch s).2.1, [(stepP ch s).2.2]) := if_neg (fun q => absurd (hw.symm.trans q.1) (by decide))
      have hP' := hP
      obtain ⟨g7, g8, g9, g11⟩ := hP
      refine z_aload_n dX4_fault_19 rfl rfl ?_
      refine zg_X4_isWrong dX4_fault_20 tw_561 ?_
      refine z_top ((show _ = zb ((stepP ch s).2.1 = true) from g9)) ?_
      refine z_bne (tgt := 52) dX4_fault_23 (by decide) (fun hw2 => ?_) (fun hw2 => ?_)
      · refine fin (stepP ch s).1 (stepP ch s).2.1 (acc ++ [(stepP ch s).2.2]) μ' (by rw [← hch]; exact stepP_le h1) (by rw [List.length_append]; show acc.length + 1 ≤ 21; omega) ho (by rw [List.length_append]; exact hP') (fun q => absurd (hw.symm.trans q) (by decide)) (by rw [hM, eT])
      · exact absurd hw hw2
    | succ f ih =>
      intro s acc μ' h1 h2 h3 ho hP hA hS hM
      have stop : ¬ ((stepP ch s).2.1 = false ∧ ch (stepP ch s).1 = 44) → Z K 5 "DyeTankModel" prog_6_method_64_code 1 52 [zR (20, 0, 0)] [] μ' := by
        intro hn
        have eT : txtP ch (f + 1 + 1) s = ((stepP ch s).1, (stepP ch s).2.1, [(stepP ch s).2.2]) := if_neg hn
        refine fin (stepP ch s).1 (stepP ch s).2.1 (acc ++ [(stepP ch s).2.2]) μ' (by rw [← hch]; exact stepP_le h1) (by rw [List.length_append]; show acc.length + 1 ≤ 21; omega) ho (by rw [List.length_append]; exact hP) (fun q => STP_app hA stepP_len (hS q)) (by rw [hM, eT])
      have hP' := hP
      obtain ⟨g7, g8, g9, g11⟩ := hP
      have hle : (stepP ch s).1 ≤ l := by rw [← hch]; exact stepP_le h1
      refine z_aload_n dX4_fault_19 rfl rfl ?_
      refine zg_X4_isWrong dX4_fault_20 tw_561 ?_
      refine z_top ((show _ = zb ((stepP ch s).2.1 = true) from g9)) ?_
      refine z_bne (tgt := 52) dX4_fault_23 (by decide) (fun hw => ?_) (fun hw => ?_)
      · exact stop (fun q => absurd (hw.symm.trans q.1) (by decide))
      · have hw := Bool.eq_false_iff.mpr hw
        refine z_aload_n dX4_fault_26 rfl rfl ?_
        refine z_cVi (m_next μ' hP' hl (by omega)) q_X4_next tw_817 dX4_fault_27 rfl rfl rfl (by omega) (Nat.le_of_ble_eq_true rfl) ?_
        refine z_bipush (v := 44) dX4_fault_30 (by decide) ?_
        rw [ho.at (27, 0, 0), hch]
        refine z_icmp_ne (tgt := 52) dX4_fault_32 (by decide) (fun h44 => ?_) (fun h44 => ?_)
        · exact stop (fun q => h44 q.2)
        · have hlt : (stepP ch s).1 < l := chr_ne (p := μ (27, 0, 0)) (c := 44) (by rw [hch]; exact h44) (by decide)
          have hge := stepP_ge hw
          have eT : txtP ch (f + 1 + 1) s = _ := if_pos ⟨hw, h44⟩
          refine z_aload_n dX4_fault_35 rfl rfl ?_
          refine z_dup dX4_fault_36 rfl ?_
          refine zg_X4_spot dX4_fault_37 tw_560 ?_
          refine z_top ((show _ = nI (stepP ch s).1 from g8)) ?_
          refine z_iconst (v := 1) dX4_fault_40 (by decide) ?_
          refine z_iadd dX4_fault_41 ?_
          refine z_top ((nI_1 (stepP ch s).1)) ?_
          refine zp_X4_spot dX4_fault_42 tw_560 ?_
          have p2 : PSt (st μ' (20, 0, 0) (upd (μ' (20, 0, 0)) 8 (nI ((stepP ch s).1 + 1)))) l ((stepP ch s).1 + 1) false (acc.length + 1) := by
            rw [PSt, st_eq]
            exact ⟨g7, rfl, by rw [← hw]; exact g9, g11⟩
          have o2 : zoff [(20, 0, 0), (28, 0, 0)] μ (st μ' (20, 0, 0) (upd (μ' (20, 0, 0)) 8 (nI ((stepP ch s).1 + 1)))) := ho.put (by simp) _
          have r2 : (st μ' (20, 0, 0) (upd (μ' (20, 0, 0)) 8 (nI ((stepP ch s).1 + 1)))) (28, 0, 0) = μ' (28, 0, 0) := st_ne _ _ (by simp)
          generalize st μ' (20, 0, 0) (upd (μ' (20, 0, 0)) 8 (nI ((stepP ch s).1 + 1))) = ν at p2 o2 r2 ⊢
          refine z_aload_n dX4_fault_45 rfl rfl ?_
          refine z_cVv (m_takeStep ν p2 hl (by omega) (by omega)) q_X4_takeStep tw_813 dX4_fault_46 rfl rfl rfl (by omega) (Nat.le_of_ble_eq_true rfl) (fun μ3 hh => ?_)
          rw [o2.at (27, 0, 0), hch] at hh
          obtain ⟨o3, p3, lo3, st3⟩ := hh
          refine z_goto (tgt := 19) dX4_fault_49 (by decide) ?_
          have eL : (acc ++ [(stepP ch s).2.2]).length = acc.length + 1 := List.length_append
          refine ih ((stepP ch s).1 + 1) (acc ++ [(stepP ch s).2.2]) μ3 (by omega) (by rw [eL]; omega) (by rw [eL]; omega) (zoff.tr o2 o3 (by simp)) (by rw [eL]; exact p3) ?_ ?_ ?_
          · have hA2 := STP_app hA stepP_len (hS hw)
            intro i L hi
            have hi2 : i < (acc ++ [(stepP ch s).2.2]).length := (List.getElem?_eq_some_iff.mp hi).1
            obtain ⟨g6, gj⟩ := hA2 i L hi
            refine ⟨g6, fun j hj => ?_⟩
            rw [lo3 _ (by omega), r2]
            exact gj j hj
          · rw [eL]
            exact st3
          · rw [hM, eT, List.append_assoc]
            rfl
  refine z_ls (ls' := [zR (20, 0, 0)]) rfl ?_
  refine z_aload_n dX4_fault_0 rfl rfl ?_
  refine z_iconst (v := 0) dX4_fault_1 (by decide) ?_
  refine zp_X4_spot dX4_fault_2 tw_560 ?_
  refine z_aload_n dX4_fault_5 rfl rfl ?_
  refine z_iconst (v := 0) dX4_fault_6 (by decide) ?_
  refine zp_X4_isWrong dX4_fault_7 tw_561 rfl rfl ?_
  refine z_aload_n dX4_fault_10 rfl rfl ?_
  refine z_iconst (v := 0) dX4_fault_11 (by decide) ?_
  refine zp_X4_stepMany dX4_fault_12 tw_563 ?_
  have p0 : PSt (st (st (st μ (20, 0, 0) (upd (μ (20, 0, 0)) 8 0)) (20, 0, 0) (upd (st μ (20, 0, 0) (upd (μ (20, 0, 0)) 8 0) (20, 0, 0)) 9 0)) (20, 0, 0) (upd (st (st μ (20, 0, 0) (upd (μ (20, 0, 0)) 8 0)) (20, 0, 0) (upd (st μ (20, 0, 0) (upd (μ (20, 0, 0)) 8 0) (20, 0, 0)) 9 0) (20, 0, 0)) 11 0)) l 0 false 0 := by
    rw [PSt, st_eq, st_eq, st_eq]
    exact ⟨h7, rfl, rfl, rfl⟩
  have o0 : zoff [(20, 0, 0), (28, 0, 0)] μ (st (st (st μ (20, 0, 0) (upd (μ (20, 0, 0)) 8 0)) (20, 0, 0) (upd (st μ (20, 0, 0) (upd (μ (20, 0, 0)) 8 0) (20, 0, 0)) 9 0)) (20, 0, 0) (upd (st (st μ (20, 0, 0) (upd (μ (20, 0, 0)) 8 0)) (20, 0, 0) (upd (st μ (20, 0, 0) (upd (μ (20, 0, 0)) 8 0) (20, 0, 0)) 9 0) (20, 0, 0)) 11 0)) := ((zoff.rf.put (by simp) _).put (by simp) _).put (by simp) _
  generalize st (st (st μ (20, 0, 0) (upd (μ (20, 0, 0)) 8 0)) (20, 0, 0) (upd (st μ (20, 0, 0) (upd (μ (20, 0, 0)) 8 0) (20, 0, 0)) 9 0)) (20, 0, 0) (upd (st (st μ (20, 0, 0) (upd (μ (20, 0, 0)) 8 0)) (20, 0, 0) (upd (st μ (20, 0, 0) (upd (μ (20, 0, 0)) 8 0) (20, 0, 0)) 9 0) (20, 0, 0)) 11 0) = ν at p0 o0 ⊢
  refine z_aload_n dX4_fault_15 rfl rfl ?_
  refine z_cVv (m_takeStep ν p0 hl (by omega) (by omega)) q_X4_takeStep tw_813 dX4_fault_16 rfl rfl rfl (by omega) (Nat.le_of_ble_eq_true rfl) (fun μ3 hh => ?_)
  rw [o0.at (27, 0, 0), hch] at hh
  obtain ⟨o3, p3, lo3, st3⟩ := hh
  exact loop 20 0 [] μ3 (by omega) (by show 3 * 0 ≤ 0; omega) rfl (zoff.tr o0 o3 (by simp)) p3 (fun i L h => absurd h (by simp)) st3 rfl
