/-! leastEkman of the reference -/
def ekmB (a : Nat → Int32) (n c T : Nat) (p : Int32) (e : Nat) : Bool := decide (meanP (aD (itF T (upd a 7 (nI e))) c) n (allA (aD (itF T (upd a 7 (nI e))) c) n) ≤ p.toInt64)
theorem lcmp_gt2 (x y : Int64) : 0 < lg_cmp x y ↔ ¬ x ≤ y := by
  unfold lg_cmp
  by_cases h : x > y
  · rw [if_pos h]
    exact ⟨fun _ => Int64.not_le.mpr h, fun _ => by decide⟩
  · rw [if_neg h]
    by_cases h2 : x = y
    · rw [if_pos h2, h2]
      exact ⟨fun q => absurd q (by decide), fun q => absurd (Int64.le_refl y) q⟩
    · rw [if_neg h2]
      exact ⟨fun q => absurd q (by decide), fun q => absurd (Int64.not_lt.mp h) q⟩
theorem m_leastEkman (μ : zM) (n : Nat) (hn : μ (21, 0, 0) 0 = nI n) (hn2 : 2 ≤ n) (hn12 : n ≤ 12) (hk6 : rK (μ (21, 0, 0)) ≤ 6) (hW : ∀ e, e ≤ 200 → ∀ k, k ≤ 50 → Wf (itF k (upd (μ (21, 0, 0)) 7 (nI e)))) (c p t : Int32) : zCs yX4_leastEkman prog_6_method_54_code 7 (some .int) 7 [zR (20, 0, 0), zI c, zI p, zI t] μ (fun μ' w => (¬ (0 ≤ c ∧ c ≤ 2) ∧ w = -1 ∧ μ' = μ) ∨ ((0 ≤ c ∧ c ≤ 2) ∧ ¬ ((0 ≤ p ∧ p ≤ 11000) ∧ (1 ≤ t ∧ t ≤ 50)) ∧ w = -2 ∧ μ' = μ) ∨ ((0 ≤ c ∧ c ≤ 2) ∧ ((0 ≤ p ∧ p ≤ 11000) ∧ (1 ≤ t ∧ t ≤ 50)) ∧ ∃ c' T : Nat, c' < 3 ∧ T ≤ 50 ∧ c = nI c' ∧ t = nI T ∧ ((allA (aD (μ (21, 0, 0)) c') n = 0 ∧ w = -5 ∧ μ' = μ) ∨ (¬ allA (aD (μ (21, 0, 0)) c') n = 0 ∧ FST (ekmB (μ (21, 0, 0)) n c' T p) 200 w ∧ zoff [(21, 0, 0), (22, 0, 0), (25, 0, 0), (26, 0, 0)] μ μ' ∧ ∀ k, k < 2386 → μ' (21, 0, 0) k = μ (21, 0, 0) k)))) := by
  refine zCt.of "DyeTankModel" rfl (by decide +kernel) rfl (Nat.le_of_ble_eq_true rfl) (fun K hR => ?_)
  have v20 := zv_20
  have v21 := zv_21
  have v22 := zv_22
  have v23 := zv_23
  have v24 := zv_24
  have v25 := zv_25
  have v26 := zv_26
  have v27 := zv_27
  have v28 := zv_28
  generalize ha : μ (21, 0, 0) = a at hn hk6 hW hR ⊢
  refine z_ls (ls' := [zR (20, 0, 0), zI c, zI p, zI t, zN, zN, zN]) rfl ?_
  refine z_iload_n dX4_leastEkman_0 rfl rfl ?_
  refine z_cSi (m_isColour μ _) q_X4_isColour tw_706 dX4_leastEkman_1 rfl rfl (by omega) (Nat.le_of_ble_eq_true rfl) ?_
  refine z_bne (tgt := 9) dX4_leastEkman_4 (by decide) (fun h1 => ?_) (fun h1 => ?_)
  · refine z_iload_n dX4_leastEkman_9 rfl rfl ?_
    refine z_iconst (v := 0) dX4_leastEkman_10 (by decide) ?_
    refine z_sipush (v := 11000) dX4_leastEkman_11 (by decide) ?_
    refine z_cSi (c_in μ _ _ _) q_X4_in tw_593 dX4_leastEkman_14 rfl rfl (by omega) (Nat.le_of_ble_eq_true rfl) ?_
    refine z_beq (tgt := 30) dX4_leastEkman_17 (by decide) (fun h2 => ?_) (fun h2 => ?_)
    · refine z_bipush (v := -2) dX4_leastEkman_30 (by decide) ?_
      refine z_iret hR dX4_leastEkman_32 (⟨_, rfl, Or.inr (Or.inl ⟨h1, fun q => h2 q.1, rfl, rfl⟩)⟩)
    · refine z_iload_n dX4_leastEkman_20 rfl rfl ?_
      refine z_iconst (v := 1) dX4_leastEkman_21 (by decide) ?_
      refine z_bipush (v := 50) dX4_leastEkman_22 (by decide) ?_
      refine z_cSi (c_in μ _ _ _) q_X4_in tw_593 dX4_leastEkman_24 rfl rfl (by omega) (Nat.le_of_ble_eq_true rfl) ?_
      refine z_bne (tgt := 33) dX4_leastEkman_27 (by decide) (fun h3 => ?_) (fun h3 => ?_)
      · obtain ⟨T, hT, eT⟩ : ∃ T : Nat, T < 51 ∧ t = nI T := (rngS (by omega)).mp ⟨Int32.le_trans (by decide) h3.1, Int32.lt_of_le_of_lt h3.2 (by decide)⟩
        obtain ⟨c', hc, ec⟩ : ∃ c' : Nat, c' < 3 ∧ c = nI c' := (rngP (n := 3) (by omega) (by omega)).mp h1
        subst eT ec
        refine z_aload_n dX4_leastEkman_33 rfl rfl ?_
        refine z_iload_n dX4_leastEkman_34 rfl rfl ?_
        refine z_cVi (m_allOf μ n (by rw [ha]; exact hn) hn2 hn12 c' hc) q_X4_allOf tw_640 dX4_leastEkman_35 rfl rfl rfl (by omega) (Nat.le_of_ble_eq_true rfl) ?_
        rw [ha]
        refine z_if_ne (tgt := 44) dX4_leastEkman_38 (by decide) (fun h5 => ?_) (fun h5 => ?_)
        · have close : ∀ (v q u : zV) (w : Int32) (μ' : zM), v = zI w → FST (ekmB a n c' T p) 200 w → zoff [(21, 0, 0), (22, 0, 0), (25, 0, 0), (26, 0, 0)] μ μ' → (∀ k, k < 2386 → μ' (21, 0, 0) k = a k) → Z K 7 "DyeTankModel" prog_6_method_54_code 7 126 [zR (20, 0, 0), zI (nI c'), zI p, zI (nI T), v, q, u] [] μ' := by
            intro v q u w μ' ev hF ho hk
            subst ev
            refine z_iload dX4_leastEkman_126 rfl ?_
            refine z_iret hR dX4_leastEkman_128 (⟨_, rfl, Or.inr (Or.inr ⟨h1, ⟨h2, h3⟩, c', T, hc, by omega, rfl, rfl, Or.inr ⟨h5, hF, ho, hk⟩⟩)⟩)
          have loop : ∀ (f e : Nat) (u : zV) (μ' : zM), e ≤ 201 → 201 < e + f → zoff [(21, 0, 0), (22, 0, 0), (25, 0, 0), (26, 0, 0)] μ μ' → μ' (21, 0, 0) = a → (∀ k, k < 2386 → μ' (22, 0, 0) k = a k) → (∀ j, j < e → ekmB a n c' T p j = false) → Z K 7 "DyeTankModel" prog_6_method_54_code 7 55 [zR (20, 0, 0), zI (nI c'), zI p, zI (nI T), zI (-6), zI (nI e), u] [] μ' := by
            intro f
            induction f with
            | zero => intro e u μ' h6 h7 h8 h9 h10 h11; exact absurd ‹_ < _ + 0› (by omega)
            | succ f ih =>
              intro e u μ' h6 h7 ho e1 h22 hF
              have ihO := ih
              refine z_iload dX4_leastEkman_55 rfl ?_
              refine z_sipush (v := 200) dX4_leastEkman_57 (by decide) ?_
              refine z_icmp_gt (tgt := 126) dX4_leastEkman_60 (by decide) (fun hb => ?_) (fun hb => ?_)
              · have hb := nlt (a := 200) hb
                exact close _ _ _ (-6) μ' rfl (Or.inr ⟨fun j hj => hF j (by omega), rfl⟩) ho (fun k _ => congrFun e1 k)
              · have hb := nnlt (a := 200) hb
                refine z_iload dX4_leastEkman_63 rfl ?_
                refine z_if_ge (tgt := 126) dX4_leastEkman_65 (by decide) (fun h9 => absurd h9 (by decide)) (fun _ => ?_)
                refine z_aload_n dX4_leastEkman_68 rfl rfl ?_
                refine zg_X4_at dX4_leastEkman_69 tw_552 ?_
                refine z_bipush (v := 7) dX4_leastEkman_72 (by decide) ?_
                refine z_iload dX4_leastEkman_74 rfl ?_
                refine z_iast dX4_leastEkman_76 (fun _ _ => rfl) rfl (i := 7) (by decide) ?_
                refine z_iconst (v := 0) dX4_leastEkman_77 (by decide) ?_
                refine z_istS dX4_leastEkman_78 (by decide) rfl ?_
                have e2 : st μ' (21, 0, 0) (upd (μ' (21, 0, 0)) 7 (nI e)) (21, 0, 0) = upd a 7 (nI e) := by rw [st_eq, e1]
                have inner : ∀ (f i : Nat) (μ2 : zM), i ≤ T → T < i + f → zoff [(21, 0, 0), (25, 0, 0), (26, 0, 0)] μ' μ2 → μ2 (21, 0, 0) = itF i (upd a 7 (nI e)) → Z K 7 "DyeTankModel" prog_6_method_54_code 7 80 [zR (20, 0, 0), zI (nI c'), zI p, zI (nI T), zI (-6), zI (nI e), zI (nI i)] [] μ2 := by
                  intro f
                  induction f with
                  | zero => intro i μ2 h12 h13 h14 h15; exact absurd ‹_ < _ + 0› (by omega)
                  | succ f ih =>
                    intro i μ2 h12 h13 o2 ei
                    refine z_iload dX4_leastEkman_80 rfl ?_
                    refine z_iload_n dX4_leastEkman_82 rfl rfl ?_
                    refine z_icmp_ge (tgt := 96) dX4_leastEkman_83 (by decide) (fun hb3 => ?_) (fun hb3 => ?_)
                    · have hb3 := nle hb3
                      have e9 : i = T := by omega
                      subst e9
                      have r0 : μ2 (21, 0, 0) 0 = nI n := by
                        rw [ei, itF_lo _ (by omega) (by omega)]
                        exact hn
                      have o3 : zoff [(21, 0, 0), (22, 0, 0), (25, 0, 0), (26, 0, 0)] μ μ2 := zoff.tr ho o2 (by simp)
                      have row : (fun j => if j < 2386 then μ2 (22, 0, 0) j else μ2 (21, 0, 0) j) = a := by
                        funext j
                        by_cases hj : j < 2386
                        · rw [if_pos hj, o2.at (22, 0, 0)]
                          exact h22 j hj
                        · rw [if_neg hj, ei, itF_hi (show rK (upd a 7 (nI e)) ≤ 6 by unfold rK upd; rw [if_neg (by omega)]; exact hk6) (by omega)]
                          exact if_neg (by omega)
                      refine z_aload_n dX4_leastEkman_96 rfl rfl ?_
                      refine z_iload_n dX4_leastEkman_97 rfl rfl ?_
                      refine z_cVl (m_meanPlace μ2 n r0 hn2 hn12 c' hc) q_X4_meanPlace tw_718 dX4_leastEkman_98 rfl rfl rfl (by omega) (Nat.le_of_ble_eq_true rfl) ?_
                      refine z_iload_n dX4_leastEkman_101 rfl rfl ?_
                      refine z_i2l dX4_leastEkman_102 ?_
                      refine z_lcmp dX4_leastEkman_103 ?_
                      rw [ei]
                      refine z_if_gt (tgt := 112) dX4_leastEkman_104 (by decide) (fun h16 => ?_) (fun h16 => ?_)
                      · rw [lcmp_gt2] at h16
                        refine z_bipush (v := -6) dX4_leastEkman_112 (by decide) ?_
                        refine z_istS dX4_leastEkman_114 (by decide) rfl ?_
                        refine z_aload_n dX4_leastEkman_116 rfl rfl ?_
                        refine z_cVv (m_putBack μ2) q_X4_putBack tw_785 dX4_leastEkman_117 rfl rfl rfl (by omega) (Nat.le_of_ble_eq_true rfl) (fun μ3 hh => ?_)
                        refine z_incS dX4_leastEkman_120 rfl (inc1 _) (by decide) rfl ?_
                        refine z_goto (tgt := 55) dX4_leastEkman_123 (by decide) ?_
                        refine ihO (e + 1) _ μ3 (by omega) (by omega) (by rw [hh]; exact o3.put (by simp) _) (by rw [hh, st_eq]; exact row) (fun k hk => by rw [hh, st_ne _ _ (by simp), o2.at (22, 0, 0)]; exact h22 k hk) ?_
                        intro j hj
                        by_cases ej : j = e
                        · rw [ej]
                          exact decide_eq_false h16
                        · exact hF j (by omega)
                      · rw [lcmp_gt2] at h16
                        refine z_iload dX4_leastEkman_107 rfl ?_
                        refine z_goto (tgt := 114) dX4_leastEkman_109 (by decide) ?_
                        refine z_istS dX4_leastEkman_114 (by decide) rfl ?_
                        refine z_aload_n dX4_leastEkman_116 rfl rfl ?_
                        refine z_cVv (m_putBack μ2) q_X4_putBack tw_785 dX4_leastEkman_117 rfl rfl rfl (by omega) (Nat.le_of_ble_eq_true rfl) (fun μ3 hh => ?_)
                        refine z_incS dX4_leastEkman_120 rfl (inc1 _) (by decide) rfl ?_
                        refine z_goto (tgt := 55) dX4_leastEkman_123 (by decide) ?_
                        refine z_iload dX4_leastEkman_55 rfl ?_
                        refine z_sipush (v := 200) dX4_leastEkman_57 (by decide) ?_
                        have hv : FST (ekmB a n c' i p) 200 (nI e) := Or.inl ⟨e, hb, decide_eq_true (Decidable.not_not.mp h16), hF, rfl⟩
                        have o4 : zoff [(21, 0, 0), (22, 0, 0), (25, 0, 0), (26, 0, 0)] μ μ3 := by rw [hh]; exact o3.put (by simp) _
                        have r4 : ∀ k, k < 2386 → μ3 (21, 0, 0) k = a k := fun k _ => by rw [hh, st_eq]; exact congrFun row k
                        refine z_icmp_gt (tgt := 126) dX4_leastEkman_60 (by decide) (fun hb4 => ?_) (fun hb4 => ?_)
                        · exact close _ _ _ (nI e) μ3 rfl hv o4 r4
                        · refine z_iload dX4_leastEkman_63 rfl ?_
                          refine z_if_ge (tgt := 126) dX4_leastEkman_65 (by decide) (fun _ => ?_) (fun h9 => absurd (nI_pos' (by omega)) h9)
                          exact close _ _ _ (nI e) μ3 rfl hv o4 r4
                    · have hb3 := nnle hb3
                      refine z_aload_n dX4_leastEkman_86 rfl rfl ?_
                      refine z_cVv (m_tickW μ2 (by rw [ei]; exact hW e (by omega) i (by omega))) q_X4_makeTick tw_664 dX4_leastEkman_87 rfl rfl rfl (by omega) (Nat.le_of_ble_eq_true rfl) (fun μ3 hh => ?_)
                      obtain ⟨o3, t3⟩ := hh
                      refine z_incS dX4_leastEkman_90 rfl (inc1 _) (by decide) rfl ?_
                      refine z_goto (tgt := 80) dX4_leastEkman_93 (by decide) ?_
                      refine ih (i + 1) μ3 (by omega) (by omega) (zoff.tr o2 o3 (by simp)) ?_
                      rw [TKR_eq t3, ei]
                      rfl
                refine inner (T + 1) 0 _ (by omega) (by omega) (zoff.rf.put (by simp) _) e2
          refine z_aload_n dX4_leastEkman_44 rfl rfl ?_
          refine z_cVv (m_putAside μ) q_X4_putAside tw_765 dX4_leastEkman_45 rfl rfl rfl (by omega) (Nat.le_of_ble_eq_true rfl) (fun μ1 hh => ?_)
          refine z_bipush (v := -6) dX4_leastEkman_48 (by decide) ?_
          refine z_istS dX4_leastEkman_50 (by decide) rfl ?_
          refine z_iconst (v := 0) dX4_leastEkman_52 (by decide) ?_
          refine z_istS dX4_leastEkman_53 (by decide) rfl ?_
          refine loop 202 0 _ μ1 (by omega) (by omega) (by rw [hh]; exact zoff.rf.put (by simp) _) (by rw [hh, st_ne _ _ (by simp)]; exact ha) (fun k hk => by rw [hh, st_eq, if_pos hk, ha]) (fun j hj => absurd hj (by omega))
        · refine z_bipush (v := -5) dX4_leastEkman_41 (by decide) ?_
          refine z_iret hR dX4_leastEkman_43 (⟨_, rfl, Or.inr (Or.inr ⟨h1, ⟨h2, h3⟩, c', T, hc, by omega, rfl, rfl, Or.inl ⟨h5, rfl, rfl⟩⟩)⟩)
      · refine z_bipush (v := -2) dX4_leastEkman_30 (by decide) ?_
        refine z_iret hR dX4_leastEkman_32 (⟨_, rfl, Or.inr (Or.inl ⟨h1, fun q => h3 q.2, rfl, rfl⟩)⟩)
  · refine z_iconst (v := -1) dX4_leastEkman_7 (by decide) ?_
    refine z_iret hR dX4_leastEkman_8 (⟨_, rfl, Or.inl ⟨h1, rfl, rfl⟩⟩)
