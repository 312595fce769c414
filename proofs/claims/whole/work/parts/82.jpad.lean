/-! texts and slots -/
theorem chr_same {p q : Nat → Int32} {l : Nat} (h : ∀ i, i < l → p i = q i) : chr p l = chr q l := by
  funext i
  unfold chr
  by_cases e : i < l
  · rw [if_pos e, if_pos e, h i e]
  · rw [if_neg e, if_neg e]
theorem J_pads {μ μ2 : zM} (h : J μ) (ho : zoff [(3, 0, 0), (4, 0, 0), (20, 0, 0), (27, 0, 0), (28, 0, 0)] μ μ2) (hP : JP μ2) : J μ2 := by
  obtain ⟨hR, hF, hS, _⟩ := h
  have e21 : μ2 (21, 0, 0) = μ (21, 0, 0) := ho (21, 0, 0) (by simp)
  unfold J
  rw [e21]
  exact ⟨Rep_frame hR (fun k i h5 h18 => ho (k, 0, i) (fun q => by simp at q; omega)), hF, JS_frame hS (fun k t i q => ho (k, t, i) (fun q2 => by simp at q2; omega)), hP⟩
theorem j_say (μ : zM) (h : J μ) (x : Int32) : zCs yX3_say prog_1_method_20_code 2 (some .int) 3 [zR (0, 0, 0), zI x] μ (fun μ1 v => zCs yX4_say prog_6_method_55_code 2 (some .int) 2 [zR (20, 0, 0), zI x] μ1 (fun μ2 u => u = v ∧ J μ2)) := by
  obtain ⟨l, s, s', w', k', hl, hD, hT, hc⟩ := id h.2.2.2
  refine zCs.two (x_say μ hD hl x) (fun μ1 w q => ?_)
  have e20 : μ1 (20, 0, 0) = μ (20, 0, 0) ∧ μ1 (27, 0, 0) = μ (27, 0, 0) := by
    rcases q with ⟨_, _, rfl⟩ | ⟨_, _, _, rfl⟩ | ⟨_, _, _, rfl⟩
    · exact ⟨rfl, rfl⟩
    · exact ⟨rfl, rfl⟩
    · exact ⟨by rw [st_ne _ _ (by decide), st_ne _ _ (by decide)], by rw [st_ne _ _ (by decide), st_ne _ _ (by decide)]⟩
  refine ⟨_, m_say μ1 l (by rw [e20.1]; exact hT.1) hl x, fun μ2 u q2 => ?_⟩
  rw [e20.1, e20.2] at q2
  rcases q with ⟨a1, e, rfl⟩ | ⟨a1, a2, e, rfl⟩ | ⟨a1, a2, e, e1⟩ <;> rcases q2 with ⟨b1, e2, rfl⟩ | ⟨b1, b2, e2, rfl⟩ | ⟨b1, b2, e2, e3⟩
  · exact ⟨e2.trans e.symm, h⟩
  · exact absurd b1 a1
  · exact absurd b1 a1
  · exact absurd a1 b1
  · exact ⟨e2.trans e.symm, h⟩
  · omega
  · exact absurd a1 b1
  · omega
  · refine ⟨e2.trans e.symm, J_pads h ?_ ?_⟩
    · rw [e3, e1]
      exact (((zoff.rf.put (by simp) _).put (by simp) _).put (by simp) _).put (by simp) _
    · have f3 : μ2 (3, 0, 0) = upd (μ (3, 0, 0)) 0 (nI (l + 1)) := by rw [e3, st_ne _ _ (by decide), st_ne _ _ (by decide), e1, st_eq]
      have f4 : μ2 (4, 0, 0) = upd (μ (4, 0, 0)) l x := by rw [e3, st_ne _ _ (by decide), st_ne _ _ (by decide), e1, st_ne _ _ (by decide), st_eq]
      have f20 : μ2 (20, 0, 0) = upd (μ (20, 0, 0)) 7 (nI (l + 1)) := by rw [e3, st_eq]
      have f27 : μ2 (27, 0, 0) = upd (μ (27, 0, 0)) l x := by rw [e3, st_ne _ _ (by decide), st_eq]
      unfold JP PD PSt
      rw [f3, f4, f20, f27]
      refine ⟨l + 1, s, s', w', k', by omega, ⟨if_pos rfl, (if_neg (by decide)).trans hD.2.1, fun i hi => ?_⟩, ⟨if_pos rfl, (if_neg (by decide)).trans hT.2.1, (if_neg (by decide)).trans hT.2.2.1, (if_neg (by decide)).trans hT.2.2.2⟩, fun i hi => ?_⟩
      · by_cases ei : i = l
        · obtain ⟨r, hr, er⟩ : ∃ r : Nat, r < 127 ∧ x = nI r := (rngS (by omega)).mp ⟨Int32.le_trans (by decide) a1.1, Int32.lt_of_le_of_lt a1.2 (by decide)⟩
          exact ⟨r, by omega, by rw [ei]; exact (if_pos rfl).trans er⟩
        · obtain ⟨r, hr, er⟩ := hD.2.2 i hi
          exact ⟨r, hr, (if_neg ei).trans er⟩
      · unfold upd
        by_cases ei : i = l
        · rw [if_pos ei, if_pos ei]
        · rw [if_neg ei, if_neg ei]
          exact hc i (by omega)
theorem j_wipe (μ : zM) (h : J μ) : zCs yX3_wipe prog_1_method_21_code 2 (some .int) 1 [zR (0, 0, 0)] μ (fun μ1 v => zCs yX4_wipe prog_6_method_56_code 2 (some .int) 1 [zR (20, 0, 0)] μ1 (fun μ2 u => u = v ∧ J μ2)) := by
  obtain ⟨l, s, s', w', k', hl, hD, hT, hc⟩ := id h.2.2.2
  refine zCs.two (x_wipe μ) (fun μ1 w q => ⟨_, m_wipe μ1, fun μ2 u q2 => ?_⟩)
  obtain ⟨e, e1⟩ := q
  obtain ⟨e2, e3⟩ := q2
  have g20 : μ1 (20, 0, 0) = μ (20, 0, 0) := by rw [e1, st_ne _ _ (by decide)]
  have f3 : μ2 (3, 0, 0) = upd (μ (3, 0, 0)) 0 0 := by rw [e3, st_ne _ _ (by decide), e1, st_eq]
  have f4 : μ2 (4, 0, 0) = μ (4, 0, 0) := by rw [e3, st_ne _ _ (by decide), e1, st_ne _ _ (by decide)]
  have f20 : μ2 (20, 0, 0) = upd (μ (20, 0, 0)) 7 0 := by rw [e3, st_eq, g20]
  have f27 : μ2 (27, 0, 0) = μ (27, 0, 0) := by rw [e3, st_ne _ _ (by decide), e1, st_ne _ _ (by decide)]
  refine ⟨by rw [e2, e, g20, hT.1, hD.1], J_pads h ?_ ?_⟩
  · rw [e3, e1]
    exact (zoff.rf.put (by simp) _).put (by simp) _
  · unfold JP PD PSt
    rw [f3, f4, f20, f27]
    exact ⟨0, s, s', w', k', by omega, ⟨(if_pos rfl).trans nI_0.symm, (if_neg (by decide)).trans hD.2.1, hD.2.2⟩, ⟨(if_pos rfl).trans nI_0.symm, (if_neg (by decide)).trans hT.2.1, (if_neg (by decide)).trans hT.2.2.1, (if_neg (by decide)).trans hT.2.2.2⟩, fun i hi => absurd hi (by omega)⟩
theorem j_fault (μ : zM) (h : J μ) : zCs yX3_fault prog_1_method_22_code 1 (some .int) 7 [zR (0, 0, 0)] μ (fun μ1 v => zCs yX4_fault prog_6_method_64_code 1 (some .int) 5 [zR (20, 0, 0)] μ1 (fun μ2 u => u = v ∧ J μ2)) := by
  obtain ⟨l, s, s', w', k', hl, hD, hT, hc⟩ := id h.2.2.2
  refine zCs.two (x_fault μ hD hl) (fun μ1 w q => ?_)
  obtain ⟨e, o1, s1, p1⟩ := q
  have g20 : μ1 (20, 0, 0) = μ (20, 0, 0) := o1 (20, 0, 0) (by simp)
  have g27 : μ1 (27, 0, 0) = μ (27, 0, 0) := o1 (27, 0, 0) (by simp)
  have g4 : μ1 (4, 0, 0) = μ (4, 0, 0) := o1 (4, 0, 0) (by simp)
  have hT1 : PSt μ1 l s' w' k' := by unfold PSt at hT ⊢; rw [g20]; exact hT
  refine ⟨_, m_fault μ1 hT1 hl, fun μ2 u q2 => ?_⟩
  obtain ⟨e2, o2, _, p2, _⟩ := q2
  refine ⟨by rw [e2, e, g27, chr_same hc], J_pads h ((o1.sub (by simp)).tr (o2.sub (S' := [(20, 0, 0), (28, 0, 0)]) (by simp)) (by simp)) ?_⟩
  have f3 : μ2 (3, 0, 0) = μ1 (3, 0, 0) := o2 (3, 0, 0) (by simp)
  have f4 : μ2 (4, 0, 0) = μ1 (4, 0, 0) := o2 (4, 0, 0) (by simp)
  have f27 : μ2 (27, 0, 0) = μ1 (27, 0, 0) := o2 (27, 0, 0) (by simp)
  exact ⟨l, s1, _, _, _, hl, by unfold PD at p1 ⊢; rw [f3, f4]; exact p1, p2, by rw [f4, g4, f27, g27]; exact hc⟩
theorem j_save (μ : zM) (h : J μ) (x : Int32) : zCs yX3_save prog_1_method_25_code 2 (some .int) 3 [zR (0, 0, 0), zI x] μ (fun μ1 v => zCs yX4_save prog_6_method_67_code 3 (some .int) 2 [zR (20, 0, 0), zI x] μ1 (fun μ2 u => u = v ∧ J μ2)) := by
  have hB := Full_IB h.2.1
  refine zCs.two (x_save μ _ h.1 hB.2.2.2.1 hB.2.2.2.2 x) (fun μ1 w q => ⟨_, m_save μ1 x, fun μ2 u q2 => ?_⟩)
  rcases q with ⟨a1, e, rfl⟩ | ⟨a1, i, hi, ex, e, ν, hz, e1, hR⟩ <;> rcases q2 with ⟨b1, e2, rfl⟩ | ⟨b1, i2, hi2, ex2, e2, e3⟩
  · exact ⟨e2.trans e.symm, h⟩
  · exact absurd b1 a1
  · exact absurd a1 b1
  · have ei : i2 = i := by
      have := congrArg Int32.toNatClampNeg (ex2.symm.trans ex)
      rwa [nI_clamp (by omega), nI_clamp (by omega)] at this
    subst ei
    have fr : ∀ k t j : Nat, (t ≠ 2 + i2 ∨ k < 5 ∨ 18 < k) → k ≠ 2 → k ≠ 23 → k ≠ 24 → μ2 (k, t, j) = μ (k, t, j) := fun k t j q n2 n23 n24 => by
      rw [e3, st_ne _ _ (fun q => n24 (by simp at q; exact q.1)), st_ne _ _ (fun q => n23 (by simp at q; exact q.1)), e1, st_ne _ _ (fun q => n2 (by simp at q; exact q.1))]
      exact hz (k, t, j) q
    have m21 : μ1 (21, 0, 0) = μ (21, 0, 0) := by
      rw [e1, st_ne _ _ (by decide)]
      exact zoT21 hz
    have m23 : μ1 (23, 0, 0) = μ (23, 0, 0) := by
      rw [e1, st_ne _ _ (by decide)]
      exact hz (23, 0, 0) (Or.inr (Or.inr (by decide)))
    have m24 : μ1 (24, 0, 0) = μ (24, 0, 0) := by
      rw [e1, st_ne _ _ (by decide)]
      exact hz (24, 0, 0) (Or.inr (Or.inr (by decide)))
    have f2 : μ2 (2, 0, 0) = upd (μ (2, 0, 0)) i2 1 := by rw [e3, st_ne _ _ (by decide), st_ne _ _ (by decide), e1, st_eq]
    have f23 : μ2 (23, 0, 0) = rg (2386 * i2) 2386 (μ (21, 0, 0)) (μ (23, 0, 0)) := by rw [e3, st_ne _ _ (by decide), st_eq, m21, m23]
    have f24 : μ2 (24, 0, 0) = upd (μ (24, 0, 0)) i2 1 := by rw [e3, st_eq, m24]
    have fν : ∀ k j : Nat, 5 ≤ k → k ≤ 18 → μ2 (k, 2 + i2, j) = ν (k, 2 + i2, j) := fun k j h5 h18 => by
      rw [e3, st_ne _ _ (fun q => by simp at q), st_ne _ _ (fun q => by simp at q), e1, st_ne _ _ (fun q => by simp at q)]
    refine ⟨by rw [e2, e, m21], ?_⟩
    unfold J
    rw [fr 21 0 0 (by omega) (by decide) (by decide) (by decide)]
    refine ⟨Rep_frame h.1 (fun k j h5 h18 => fr k 0 j (by omega) (by omega) (by omega) (by omega)), h.2.1, ?_, JP_frame h.2.2.2 (fr 3 0 0 (by omega) (by decide) (by decide) (by decide)) (fr 4 0 0 (by omega) (by decide) (by decide) (by decide)) (fr 20 0 0 (by omega) (by decide) (by decide) (by decide)) (fr 27 0 0 (by omega) (by decide) (by decide) (by decide))⟩
    intro j hj
    rw [f2, f24, f23]
    obtain ⟨g1, g2, g3⟩ := h.2.2.1 j hj
    unfold upd
    by_cases ej : j = i2
    · subst ej
      rw [if_pos rfl, if_pos rfl]
      have hrow : ∀ k, k < 2386 → (fun j' => rg (2386 * j) 2386 (μ (21, 0, 0)) (μ (23, 0, 0)) (2386 * j + j')) k = μ (21, 0, 0) k := fun k hk => by
        show rg (2386 * j) 2386 (μ (21, 0, 0)) (μ (23, 0, 0)) (2386 * j + k) = _
        unfold rg
        rw [if_pos (by omega)]
        congr 1
        omega
      exact ⟨rfl, Or.inr rfl, fun _ => ⟨Rep_row (Rep_frame hR fν) hB.2.2.1 hB.2.2.2.2 hrow, Full_row h.2.1 hrow⟩⟩
    · rw [if_neg ej, if_neg ej]
      refine ⟨g1, g2, fun q => ?_⟩
      obtain ⟨r1, r2⟩ := g3 q
      have hB2 := Full_IB r2
      have hrow : ∀ k, k < 2386 → (fun j' => rg (2386 * i2) 2386 (μ (21, 0, 0)) (μ (23, 0, 0)) (2386 * j + j')) k = (fun j' => μ (23, 0, 0) (2386 * j + j')) k := fun k hk => by
        show rg (2386 * i2) 2386 (μ (21, 0, 0)) (μ (23, 0, 0)) (2386 * j + k) = _
        unfold rg
        rw [if_neg (by omega)]
      exact ⟨Rep_row (Rep_frame r1 (fun k t h5 h18 => fr k (2 + j) t (by omega) (by omega) (by omega) (by omega))) hB2.2.2.1 hB2.2.2.2.2 hrow, Full_row r2 hrow⟩
theorem j_restore (μ : zM) (h : J μ) (x : Int32) : zCs yX3_restore prog_1_method_26_code 2 (some .int) 3 [zR (0, 0, 0), zI x] μ (fun μ1 v => zCs yX4_restore prog_6_method_68_code 3 (some .int) 2 [zR (20, 0, 0), zI x] μ1 (fun μ2 u => u = v ∧ J μ2)) := by
  have hS := h.2.2.1
  refine zCs.two (x_restore μ (fun i j => μ (23, 0, 0) (2386 * i + j)) (fun i hi q => ?_) x) (fun μ1 w q => ?_)
  · rw [(hS i hi).1] at q
    obtain ⟨r1, r2⟩ := (hS i hi).2.2 q
    have hB2 := Full_IB r2
    exact ⟨r1, hB2.2.2.2.1, hB2.2.2.2.2⟩
  have e : μ1 (21, 0, 0) = μ (21, 0, 0) ∧ μ1 (23, 0, 0) = μ (23, 0, 0) ∧ μ1 (24, 0, 0) = μ (24, 0, 0) := by
    rcases q with ⟨_, _, rfl⟩ | ⟨_, i, _, _, ⟨_, _, rfl⟩ | ⟨_, _, hz, _⟩⟩
    · exact ⟨rfl, rfl, rfl⟩
    · exact ⟨rfl, rfl, rfl⟩
    · exact ⟨zoT21 hz, hz (23, 0, 0) (Or.inr (Or.inr (by decide))), hz (24, 0, 0) (Or.inr (Or.inr (by decide)))⟩
  refine ⟨_, m_restore μ1 (fun i hi => by rw [e.2.2]; exact (hS i hi).2.1) x, fun μ2 u q2 => ?_⟩
  rw [e.1, e.2.1, e.2.2] at q2
  rcases q with ⟨a1, e1, rfl⟩ | ⟨a1, i, hi, ex, q⟩ <;> rcases q2 with ⟨b1, e2, rfl⟩ | ⟨b1, i2, hi2, ex2, q2⟩
  · exact ⟨e2.trans e1.symm, h⟩
  · exact absurd b1 a1
  · exact absurd a1 b1
  · have ei : i2 = i := by
      have := congrArg Int32.toNatClampNeg (ex2.symm.trans ex)
      rwa [nI_clamp (by omega), nI_clamp (by omega)] at this
    subst ei
    obtain ⟨g1, g2, g3⟩ := hS i2 hi2
    rw [g1] at q
    rcases q with ⟨d1, e1, rfl⟩ | ⟨d1, e1, hz, hR⟩ <;> rcases q2 with ⟨d2, e2, rfl⟩ | ⟨d2, e2, rfl⟩
    · exact ⟨e2.trans e1.symm, h⟩
    · exact absurd d1 d2
    · exact absurd d2 d1
    · exact ⟨e2.trans e1.symm, J_row h (zoT.o01 hz) hR (g3 d1).2 (zoff_st21 μ1 _) (fun k hk => by rw [st_eq, if_pos hk])⟩
theorem Full_run : ∀ (Ls : List (List Int32)) (a : Nat → Int32), (∀ L ∈ Ls, SL L) → Full a → Full (runA Ls a).2
  | [], _, _, h => h
  | L :: Ls, a, hS, h => by
    have h1 := Full_doA h (hS L List.mem_cons_self)
    unfold runA
    by_cases c : (doA a L).1 = true
    · rw [if_pos c]
      exact Full_run Ls _ (fun M hM => hS M (List.mem_cons_of_mem _ hM)) h1
    · rw [if_neg c]
      exact h1
theorem j_carryOut (μ : zM) (h : J μ) : zCs yX3_carryOut prog_1_method_23_code 3 (some .int) 8 [zR (0, 0, 0)] μ (fun μ1 v => zCs yX4_carryOut prog_6_method_66_code 2 (some .int) 8 [zR (20, 0, 0)] μ1 (fun μ2 u => u = v ∧ J μ2)) := by
  obtain ⟨l, s, s', w', k', hl, hD, hT, hc⟩ := id h.2.2.2
  refine zCs.two (x_carryOut μ _ h.1 Full (fun a q => Full_Gd q) (fun a L q z => Full_doA q z) h.2.1 hD hl) (fun μ1 w q => ?_)
  obtain ⟨o1, ⟨s1, p1⟩, e, hR⟩ := q
  have g20 : μ1 (20, 0, 0) = μ (20, 0, 0) := o1 (20, 0, 0) (by decide) (Or.inr (Or.inr (by decide)))
  have g21 : μ1 (21, 0, 0) = μ (21, 0, 0) := o1 (21, 0, 0) (by decide) (Or.inr (Or.inr (by decide)))
  have g27 : μ1 (27, 0, 0) = μ (27, 0, 0) := o1 (27, 0, 0) (by decide) (Or.inr (Or.inr (by decide)))
  have g4 : μ1 (4, 0, 0) = μ (4, 0, 0) := o1 (4, 0, 0) (by decide) (Or.inr (Or.inl (by decide)))
  have hT1 : PSt μ1 l s' w' k' := by unfold PSt at hT ⊢; rw [g20]; exact hT
  refine ⟨_, m_carryOut μ1 Full (fun a q => (Full_Gd q).1) (fun a L q z => Full_doA q z) (by rw [g21]; exact h.2.1) hT1 hl, fun μ2 u q2 => ?_⟩
  obtain ⟨o2, ⟨s2, w2, k2, p2⟩, e2, e3⟩ := q2
  have ec := chr_same hc
  rw [g27, ← ec] at p2
  rw [g27, ← ec, g21] at e2 e3
  have hF : Full (if fauP (chr (μ (4, 0, 0)) l) l = -6 then (runA (txtP (chr (μ (4, 0, 0)) l) 21 0).2.2 (μ (21, 0, 0))).2 else μ (21, 0, 0)) := by
    by_cases c : fauP (chr (μ (4, 0, 0)) l) l = -6
    · rw [if_pos c]
      exact Full_run _ _ (txtP_SL 21 0 (fau_ok hl c)) h.2.1
    · rw [if_neg c]
      exact h.2.1
  rw [← e3] at hR hF
  have f3 : μ2 (3, 0, 0) = μ1 (3, 0, 0) := o2 (3, 0, 0) (by simp)
  have f4 : μ2 (4, 0, 0) = μ (4, 0, 0) := (o2 (4, 0, 0) (by simp)).trans g4
  have f27 : μ2 (27, 0, 0) = μ (27, 0, 0) := (o2 (27, 0, 0) (by simp)).trans g27
  refine ⟨e2.trans e.symm, Rep_frame hR (fun k i h5 h18 => o2 (k, 0, i) (fun q => by simp at q; omega)), hF, JS_frame h.2.2.1 (fun k t i q => (o2 (k, t, i) (fun q2 => by simp at q2; omega)).trans (o1 (k, t, i) (fun q2 => by simp at q2; omega) (by show t ≠ 0 ∨ k < 5 ∨ 18 < k; omega))), ?_⟩
  have lf : (if fauP (chr (μ (4, 0, 0)) l) l = -6 then 0 else l) ≤ l := by split <;> omega
  refine ⟨_, s1, s2, w2, k2, by omega, ?_, p2, fun i hi => by rw [f4, f27]; exact hc i (by omega)⟩
  unfold PD at p1 ⊢
  rw [g4] at p1
  rw [f3, f4]
  exact p1
