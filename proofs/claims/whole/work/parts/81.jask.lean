/-! the forecasts -/
theorem FST_congr {f g : Nat → Bool} {M : Nat} {w : Int32} (h : FST f M w) (e : ∀ k, k ≤ M → g k = f k) : FST g M w := by
  rcases h with ⟨k, hk, h1, h2, h3⟩ | ⟨h1, h2⟩
  · exact Or.inl ⟨k, hk, (e k hk).trans h1, fun j hj => (e j (by omega)).trans (h2 j hj), h3⟩
  · exact Or.inr ⟨fun j hj => (e j hj).trans (h1 j hj), h2⟩
theorem j_settles (μ : zM) (h : J μ) (b m : Int32) : zCs yX3_settles prog_1_method_15_code 4 (some .int) 5 [zR (0, 0, 0), zI b, zI m] μ (fun μ1 v' => zCs yX4_settles prog_6_method_51_code 3 (some .int) 7 [zR (20, 0, 0), zI b, zI m] μ1 (fun μ2 u => u = v' ∧ J μ2)) := by
  have hB := Full_IB h.2.1
  have hn12 := hB.2.2.1
  have hk6 := hB.2.2.2.2
  obtain ⟨t, ht, h1, hI, hG, hP⟩ := id h.2.1
  refine zCs.two (x_settles μ _ h.1 t ht hI hP b m) (fun μ1 w q => ?_)
  have e21 : μ1 (21, 0, 0) = μ (21, 0, 0) := by
    rcases q with ⟨_, _, rfl⟩ | ⟨_, M, _, _, _, hz⟩
    · rfl
    · exact zoT21 hz
  refine ⟨_, m_settles μ1 (rN (μ (21, 0, 0))) (by rw [e21]; exact hB.1) hB.2.1 hB.2.2.1 (by rw [e21]; exact Full_W h.2.1) b m, fun μ2 u q2 => ?_⟩
  rcases q with ⟨a1, e, rfl⟩ | ⟨a1, M, hM, eM, e, hz⟩ <;> rcases q2 with ⟨b1, e2, rfl⟩ | ⟨b1, M2, hM2, eM2, e2, hz2, e3⟩
  · exact ⟨e2.trans e.symm, h⟩
  · exact absurd b1 a1
  · exact absurd a1 b1
  · have g1 : M2 = M := by
      have := congrArg Int32.toNatClampNeg (eM2.symm.trans eM)
      rwa [nI_clamp (by omega), nI_clamp (by omega)] at this
    subst g1
    rw [e21] at e2
    exact ⟨FST_eq e2 e, J_same h hz hz2 e3⟩
theorem j_arrives (μ : zM) (h : J μ) (c r s m : Int32) : zCs yX3_arrives prog_1_method_16_code 8 (some .int) 5 [zR (0, 0, 0), zI c, zI r, zI s, zI m] μ (fun μ1 v' => zCs yX4_arrives prog_6_method_52_code 5 (some .int) 7 [zR (20, 0, 0), zI c, zI r, zI s, zI m] μ1 (fun μ2 u => u = v' ∧ J μ2)) := by
  have hB := Full_IB h.2.1
  have hn12 := hB.2.2.1
  have hk6 := hB.2.2.2.2
  obtain ⟨t, ht, h1, hI, hG, hP⟩ := id h.2.1
  refine zCs.two (x_arrives μ _ h.1 t (by omega) hI c r s m) (fun μ1 w q => ?_)
  have e21 : μ1 (21, 0, 0) = μ (21, 0, 0) := by
    rcases q with ⟨_, _, rfl⟩ | ⟨_, _, _, rfl⟩ | ⟨_, _, c', r', M, _, _, _, _, _, _, ⟨_, _, rfl⟩ | ⟨_, _, hz⟩⟩
    · rfl
    · rfl
    · rfl
    · exact zoT21 hz
  refine ⟨_, m_arrives μ1 (rN (μ (21, 0, 0))) (by rw [e21]; exact hB.1) hB.2.1 hB.2.2.1 (by rw [e21]; exact Full_W h.2.1) c r s m, fun μ2 u q2 => ?_⟩
  rcases q with ⟨a1, e, rfl⟩ | ⟨a1, a2, e, rfl⟩ | ⟨a1, a2, c', r', M, hc, hr, hM, ec, er, eM, q⟩ <;> rcases q2 with ⟨b1, e2, rfl⟩ | ⟨b1, b2, e2, rfl⟩ | ⟨b1, b2, c2, r2, M2, hc2, hr2, hM2, ec2, er2, eM2, q2⟩
  · exact ⟨e2.trans e.symm, h⟩
  · exact absurd b1 a1
  · exact absurd b1 a1
  · exact absurd a1 b1
  · exact ⟨e2.trans e.symm, h⟩
  · exact absurd b2 a2
  · exact absurd a1 b1
  · exact absurd a2 b2
  · have g1 : c2 = c' := by
      have := congrArg Int32.toNatClampNeg (ec2.symm.trans ec)
      rwa [nI_clamp (by omega), nI_clamp (by omega)] at this
    have g2 : r2 = r' := by
      have := congrArg Int32.toNatClampNeg (er2.symm.trans er)
      rwa [nI_clamp (by omega), nI_clamp (by omega)] at this
    have g3 : M2 = M := by
      have := congrArg Int32.toNatClampNeg (eM2.symm.trans eM)
      rwa [nI_clamp (by omega), nI_clamp (by omega)] at this
    subst g1 g2 g3
    rw [e21] at q2
    rcases q with ⟨d1, e, rfl⟩ | ⟨d1, e, hz⟩ <;> rcases q2 with ⟨d2, e2, rfl⟩ | ⟨d2, e2, hz2, e3⟩
    · exact ⟨e2.trans e.symm, h⟩
    · exact absurd d1 d2
    · exact absurd d2 d1
    · exact ⟨FST_eq e2 e, J_same h hz hz2 (fun k hk => by rw [e3 k hk, e21])⟩
theorem j_meet (μ : zM) (h : J μ) (x y b m : Int32) : zCs yX3_meet prog_1_method_17_code 6 (some .int) 5 [zR (0, 0, 0), zI x, zI y, zI b, zI m] μ (fun μ1 v' => zCs yX4_meet prog_6_method_53_code 5 (some .int) 7 [zR (20, 0, 0), zI x, zI y, zI b, zI m] μ1 (fun μ2 u => u = v' ∧ J μ2)) := by
  have hB := Full_IB h.2.1
  have hn12 := hB.2.2.1
  have hk6 := hB.2.2.2.2
  obtain ⟨t, ht, h1, hI, hG, hP⟩ := id h.2.1
  refine zCs.two (x_meet μ _ h.1 t (by omega) hI hG x y b m) (fun μ1 w q => ?_)
  have e21 : μ1 (21, 0, 0) = μ (21, 0, 0) := by
    rcases q with ⟨_, _, rfl⟩ | ⟨_, _, _, rfl⟩ | ⟨_, _, i, j, M, _, _, _, _, _, _, _, hz⟩
    · rfl
    · rfl
    · exact zoT21 hz
  refine ⟨_, m_meet μ1 (rN (μ (21, 0, 0))) (rK (μ (21, 0, 0))) (by rw [e21]; exact hB.1) hB.2.1 hB.2.2.1 (by rw [e21]; exact hB.2.2.2.1) hB.2.2.2.2 (by rw [e21]; exact Full_W h.2.1) x y b m, fun μ2 u q2 => ?_⟩
  rcases q with ⟨a1, e, rfl⟩ | ⟨a1, a2, e, rfl⟩ | ⟨a1, a2, i, j, M, hi, hj, hM, ei, ej, eM, e, hz⟩ <;> rcases q2 with ⟨b1, e2, rfl⟩ | ⟨b1, b2, e2, rfl⟩ | ⟨b1, b2, i2, j2, M2, hi2, hj2, hM2, ei2, ej2, eM2, e2, hz2, e3⟩
  · exact ⟨e2.trans e.symm, h⟩
  · exact absurd b1 a1
  · exact absurd b1 a1
  · exact absurd a1 b1
  · exact ⟨e2.trans e.symm, h⟩
  · exact absurd b2 a2
  · exact absurd a1 b1
  · exact absurd a2 b2
  · have g1 : i2 = i := by
      have := congrArg Int32.toNatClampNeg (ei2.symm.trans ei)
      rwa [nI_clamp (by omega), nI_clamp (by omega)] at this
    have g2 : j2 = j := by
      have := congrArg Int32.toNatClampNeg (ej2.symm.trans ej)
      rwa [nI_clamp (by omega), nI_clamp (by omega)] at this
    have g3 : M2 = M := by
      have := congrArg Int32.toNatClampNeg (eM2.symm.trans eM)
      rwa [nI_clamp (by omega), nI_clamp (by omega)] at this
    subst g1 g2 g3
    rw [e21] at e2
    exact ⟨FST_eq e2 e, J_same h hz hz2 e3⟩
theorem Full_We {a : Nat → Int32} (h : Full a) : ∀ e, e ≤ 200 → ∀ k, k ≤ 50 → Wf (itF k (upd a 7 (nI e))) := by
  obtain ⟨t, ht, h1, hI, _⟩ := h
  intro e _ k hk
  exact Inv_Wf (t := t + k) (by omega) (Inv_it (Inv_set5 hI (nI e)).1 k (by omega))
theorem j_leastEkman (μ : zM) (h : J μ) (c p t : Int32) : zCs yX3_leastEkman prog_1_method_18_code 5 (some .int) 6 [zR (0, 0, 0), zI c, zI p, zI t] μ (fun μ1 v' => zCs yX4_leastEkman prog_6_method_54_code 7 (some .int) 7 [zR (20, 0, 0), zI c, zI p, zI t] μ1 (fun μ2 u => u = v' ∧ J μ2)) := by
  have hB := Full_IB h.2.1
  have hn12 := hB.2.2.1
  have hk6 := hB.2.2.2.2
  obtain ⟨T0, ht, h1, hI, hG, hP⟩ := id h.2.1
  refine zCs.two (x_leastEkman μ _ h.1 T0 (by omega) hI c p t) (fun μ1 w q => ?_)
  have e21 : μ1 (21, 0, 0) = μ (21, 0, 0) := by
    rcases q with ⟨_, _, rfl⟩ | ⟨_, _, _, rfl⟩ | ⟨_, _, c', T, _, _, _, _, ⟨_, _, rfl⟩ | ⟨_, _, hz⟩⟩
    · rfl
    · rfl
    · rfl
    · exact zoT21 hz
  refine ⟨_, m_leastEkman μ1 (rN (μ (21, 0, 0))) (by rw [e21]; exact hB.1) hB.2.1 hB.2.2.1 (by rw [e21]; exact hB.2.2.2.2) (by rw [e21]; exact Full_We h.2.1) c p t, fun μ2 u q2 => ?_⟩
  rcases q with ⟨a1, e, rfl⟩ | ⟨a1, a2, e, rfl⟩ | ⟨a1, a2, c', T, hc, hT, ec, eT, q⟩ <;> rcases q2 with ⟨b1, e2, rfl⟩ | ⟨b1, b2, e2, rfl⟩ | ⟨b1, b2, c2, T2, hc2, hT2, ec2, eT2, q2⟩
  · exact ⟨e2.trans e.symm, h⟩
  · exact absurd b1 a1
  · exact absurd b1 a1
  · exact absurd a1 b1
  · exact ⟨e2.trans e.symm, h⟩
  · exact absurd b2 a2
  · exact absurd a1 b1
  · exact absurd a2 b2
  · have g1 : c2 = c' := by
      have := congrArg Int32.toNatClampNeg (ec2.symm.trans ec)
      rwa [nI_clamp (by omega), nI_clamp (by omega)] at this
    have g2 : T2 = T := by
      have := congrArg Int32.toNatClampNeg (eT2.symm.trans eT)
      rwa [nI_clamp (by omega), nI_clamp (by omega)] at this
    subst g1 g2
    rw [e21] at q2
    rcases q with ⟨d1, e, rfl⟩ | ⟨d1, e, hz⟩ <;> rcases q2 with ⟨d2, e2, rfl⟩ | ⟨d2, e2, hz2, e3⟩
    · exact ⟨e2.trans e.symm, h⟩
    · exact absurd d1 d2
    · exact absurd d2 d1
    · exact ⟨FST_eq e2 e, J_same h hz hz2 (fun k hk => by rw [e3 k hk, e21])⟩
