/-! the calls that change the row -/
theorem j_setUp (μ : zM) (h : J μ) (x : Int32) : zCs yX3_setUp prog_1_method_2_code 3 (some .int) 3 [zR (0, 0, 0), zI x] μ (fun μ1 v => zCs yX4_setUp prog_6_method_10_code 3 (some .int) 3 [zR (20, 0, 0), zI x] μ1 (fun μ2 u => u = v ∧ J μ2)) := by
  refine zCs.two (x_setUp μ _ h.1 x) (fun μ1 w q => ⟨_, m_setUp μ1 x, fun μ2 u q2 => ?_⟩)
  rcases q with ⟨c, e, hz, hR⟩ | ⟨c, e, rfl⟩ <;> rcases q2 with ⟨c2, e2, f, rfl, hf⟩ | ⟨c2, e2, rfl⟩
  · exact ⟨by rw [e2, e, zoT21 hz], J_row h (zoT.o01 hz) hR (Full_beg c) (zoff_st21 μ1 f) (fun k hk => by rw [st_eq]; exact hf k hk)⟩
  · exact absurd c c2
  · exact absurd c2 c
  · exact ⟨e2.trans e.symm, h⟩
theorem j_set (μ : zM) (h : J μ) (s v : Int32) : zCs yX3_set prog_1_method_3_code 4 (some .int) 2 [zR (0, 0, 0), zI s, zI v] μ (fun μ1 v' => zCs yX4_set prog_6_method_12_code 4 (some .int) 3 [zR (20, 0, 0), zI s, zI v] μ1 (fun μ2 u => u = v' ∧ J μ2)) := by
  refine zCs.two (x_set μ _ h.1 s v) (fun μ1 w q => ⟨_, m_set μ1 s v, fun μ2 u q2 => ?_⟩)
  rcases q with ⟨j, hj, es, c, e, hz, hR⟩ | ⟨c, e, rfl⟩ <;> rcases q2 with ⟨j2, hj2, es2, c2, e2, rfl⟩ | ⟨c2, e2, rfl⟩
  · have ej : j2 = j := by
      have := congrArg Int32.toNatClampNeg (es2.symm.trans es)
      rwa [nI_clamp (by omega), nI_clamp (by omega)] at this
    subst ej
    rw [zoT21 hz] at e2 ⊢
    exact ⟨e2.trans e.symm, J_row h (zoT.o01 hz) hR (Full_set h.2.1 hj (by rw [← es]; exact c)) (zoff_st21 μ1 _) (fun k hk => by rw [st_eq])⟩
  · exact absurd c c2
  · exact absurd c2 c
  · exact ⟨e2.trans e.symm, h⟩
theorem j_spin (μ : zM) (h : J μ) (x v : Int32) : zCs yX3_spin prog_1_method_4_code 4 (some .int) 3 [zR (0, 0, 0), zI x, zI v] μ (fun μ1 v' => zCs yX4_spin prog_6_method_14_code 4 (some .int) 3 [zR (20, 0, 0), zI x, zI v] μ1 (fun μ2 u => u = v' ∧ J μ2)) := by
  have hB := Full_IB h.2.1
  have hn12 := hB.2.2.1
  have hk6 := hB.2.2.2.2
  refine zCs.two (x_spin μ _ h.1 (Full_R0 h.2.1) x v) (fun μ1 w q => ?_)
  have e21 : μ1 (21, 0, 0) = μ (21, 0, 0) := by
    rcases q with ⟨r, _, _, _, _, hz, _⟩ | ⟨_, rfl⟩
    · exact zoT21 hz
    · rfl
  refine ⟨_, m_spin μ1 (rN (μ (21, 0, 0))) (by rw [e21]; exact hB.1) hB.2.1 hB.2.2.1 x v, fun μ2 u q2 => ?_⟩
  rcases q with ⟨r, hr, ex, c, e, hz, hR⟩ | ⟨c, rfl⟩ <;> rcases q2 with ⟨r2, hr2, ex2, c2, e2, rfl⟩ | ⟨c2, rfl⟩
  · have er : r2 = r := by
      have := congrArg Int32.toNatClampNeg (ex2.symm.trans ex)
      rwa [nI_clamp (by omega), nI_clamp (by omega)] at this
    subst er
    rw [e21] at e2 ⊢
    exact ⟨e2.trans e.symm, J_row h (zoT.o01 hz) hR (Full_spin h.2.1 (by omega) c) (zoff_st21 μ1 _) (fun k hk => by rw [st_eq])⟩
  · rcases c2 with ⟨c2, _⟩ | ⟨_, c2, _⟩
    · exact absurd ⟨r, hr, ex⟩ c2
    · exact absurd c c2
  · rcases c with ⟨c, _⟩ | ⟨_, c, _⟩
    · exact absurd ⟨r2, hr2, ex2⟩ c
    · exact absurd c2 c
  · refine ⟨?_, h⟩
    rcases c with ⟨c, e⟩ | ⟨c, _, e⟩ <;> rcases c2 with ⟨c2, e2⟩ | ⟨c2, _, e2⟩
    · exact e2.trans e.symm
    · exact absurd c2 c
    · exact absurd c c2
    · exact e2.trans e.symm
theorem j_spinAll (μ : zM) (h : J μ) (x y : Int32) : zCs yX3_spinAll prog_1_method_5_code 3 (some .int) 4 [zR (0, 0, 0), zI x, zI y] μ (fun μ1 v' => zCs yX4_spinAll prog_6_method_16_code 4 (some .int) 3 [zR (20, 0, 0), zI x, zI y] μ1 (fun μ2 u => u = v' ∧ J μ2)) := by
  have hB := Full_IB h.2.1
  have hn12 := hB.2.2.1
  have hk6 := hB.2.2.2.2
  refine zCs.two (x_spinAll μ _ h.1 (Full_R0 h.2.1) x y) (fun μ1 w q => ?_)
  have e21 : μ1 (21, 0, 0) = μ (21, 0, 0) := by
    rcases q with ⟨_, _, _, hz, _⟩ | ⟨_, _, rfl⟩
    · exact zoT21 hz
    · rfl
  refine ⟨_, m_spinAll μ1 (rN (μ (21, 0, 0))) (by rw [e21]; exact hB.1) hB.2.1 hB.2.2.1 x y, fun μ2 u q2 => ?_⟩
  rcases q with ⟨c, c', e, hz, hR⟩ | ⟨c, e, rfl⟩ <;> rcases q2 with ⟨c2, c2', e2, rfl⟩ | ⟨c2, e2, rfl⟩
  · rw [st_eq, e21] at e2
    exact ⟨e2.trans e.symm, J_row h (zoT.o01 hz) hR (Full_spinAll h.2.1 c c') (zoff_st21 μ1 _) (fun k hk => by rw [st_eq, e21])⟩
  · exact absurd ⟨c, c'⟩ c2
  · exact absurd ⟨c2, c2'⟩ c
  · exact ⟨e2.trans e.symm, h⟩
theorem j_pour (μ : zM) (h : J μ) (c L r s m : Int32) : zCs yX3_pour prog_1_method_6_code 6 (some .int) 4 [zR (0, 0, 0), zI c, zI L, zI r, zI s, zI m] μ (fun μ1 v' => zCs yX4_pour prog_6_method_22_code 7 (some .int) 4 [zR (20, 0, 0), zI c, zI L, zI r, zI s, zI m] μ1 (fun μ2 u => u = v' ∧ J μ2)) := by
  have hB := Full_IB h.2.1
  have hn12 := hB.2.2.1
  have hk6 := hB.2.2.2.2
  refine zCs.two (x_pour μ _ h.1 (Full_R0 h.2.1) hB.2.2.2.2 (Full_Gd h.2.1).1.2.2 c L r s m) (fun μ1 w q => ?_)
  have e21 : μ1 (21, 0, 0) = μ (21, 0, 0) := by
    rcases q with ⟨_, _, rfl⟩ | ⟨_, _, _, rfl⟩ | ⟨_, _, c', L', r', _, _, _, _, _, _, ⟨_, _, rfl⟩ | ⟨_, _, hz, _⟩⟩
    · rfl
    · rfl
    · rfl
    · exact zoT21 hz
  refine ⟨_, m_pour μ1 (rN (μ (21, 0, 0))) (by rw [e21]; exact hB.1) hB.2.1 hB.2.2.1 c L r s m, fun μ2 u q2 => ?_⟩
  rw [e21] at q2
  rcases q with ⟨a1, e, rfl⟩ | ⟨a1, a2, e, rfl⟩ | ⟨a1, a2, c', L', r', hc, hL, hr, ec, eL, er, q⟩ <;> rcases q2 with ⟨b1, e2, rfl⟩ | ⟨b1, b2, e2, rfl⟩ | ⟨b1, b2, c2, L2, r2, hc2, hL2, hr2, ec2, eL2, er2, q2⟩
  · exact ⟨e2.trans e.symm, h⟩
  · exact absurd b1 a1
  · exact absurd b1 a1
  · exact absurd a1 b1
  · exact ⟨e2.trans e.symm, h⟩
  · exact absurd b2 a2
  · exact absurd a1 b1
  · exact absurd a2 b2
  · have g1 : c2 = c' := by
      have := congrArg Int32.toNatClampNeg (ec2.symm.trans ec)
      rwa [nI_clamp (by omega), nI_clamp (by omega)] at this
    have g2 : L2 = L' := by
      have := congrArg Int32.toNatClampNeg (eL2.symm.trans eL)
      rwa [nI_clamp (by omega), nI_clamp (by omega)] at this
    have g3 : r2 = r' := by
      have := congrArg Int32.toNatClampNeg (er2.symm.trans er)
      rwa [nI_clamp (by omega), nI_clamp (by omega)] at this
    subst g1 g2 g3
    rcases q with ⟨d1, e, rfl⟩ | ⟨d1, e, hz, hR⟩ <;> rcases q2 with ⟨d2, e2, rfl⟩ | ⟨d2, e2, rfl⟩
    · exact ⟨e2.trans e.symm, h⟩
    · exact absurd d2 d1
    · exact absurd d1 d2
    · exact ⟨e2.trans e.symm, J_row h (zoT.o01 hz) hR (Full_pour h.2.1 hc hL hr a2 d1) (zoff_st21 μ1 _) (fun k hk => by rw [st_eq])⟩
theorem j_tick (μ : zM) (h : J μ) (x : Int32) : zCs yX3_tick prog_1_method_7_code 3 (some .int) 6 [zR (0, 0, 0), zI x] μ (fun μ1 v' => zCs yX4_tick prog_6_method_30_code 3 (some .int) 6 [zR (20, 0, 0), zI x] μ1 (fun μ2 u => u = v' ∧ J μ2)) := by
  obtain ⟨hGd, t, ht, hI, h1⟩ := Full_Gd h.2.1
  refine zCs.two (x_tick μ _ h.1 t t (by omega) hI h1 ht x) (fun μ1 w q => ?_)
  have e21 : μ1 (21, 0, 0) = μ (21, 0, 0) := by
    rcases q with ⟨_, _, rfl⟩ | ⟨_, _, _, rfl⟩ | ⟨_, _, M, _, _, _, hz, _⟩
    · rfl
    · rfl
    · exact zoT21 hz
  refine ⟨_, m_tick μ1 (by rw [e21]; exact Full_W h.2.1) x, fun μ2 u q2 => ?_⟩
  rw [e21] at q2
  rcases q with ⟨a1, e, rfl⟩ | ⟨a1, a2, e, rfl⟩ | ⟨a1, a2, M, hM, eM, e, hz, hR⟩ <;> rcases q2 with ⟨b1, e2, rfl⟩ | ⟨b1, b2, e2, rfl⟩ | ⟨b1, b2, M2, hM2, eM2, e2, hz2, e3⟩
  · exact ⟨e2.trans e.symm, h⟩
  · exact absurd b1 a1
  · exact absurd b1 a1
  · exact absurd a1 b1
  · exact ⟨e2.trans e.symm, h⟩
  · exact absurd b2 a2
  · exact absurd a1 b1
  · exact absurd a2 b2
  · have g1 : M2 = M := by
      have := congrArg Int32.toNatClampNeg (eM2.symm.trans eM)
      rwa [nI_clamp (by omega), nI_clamp (by omega)] at this
    subst g1
    exact ⟨by rw [e2, e3, e], J_row h (zoT.o01 hz) hR (Full_it h.2.1 hM (by rw [← eM]; exact a2)) (hz2.of21 (by simp)) (fun k hk => by rw [e3])⟩
theorem j_marker (μ : zM) (h : J μ) (p g : Int32) : zCs yX3_marker prog_1_method_12_code 4 (some .int) 2 [zR (0, 0, 0), zI p, zI g] μ (fun μ1 v' => zCs yX4_marker prog_6_method_41_code 4 (some .int) 2 [zR (20, 0, 0), zI p, zI g] μ1 (fun μ2 u => u = v' ∧ J μ2)) := by
  have hB := Full_IB h.2.1
  have hn12 := hB.2.2.1
  have hk6 := hB.2.2.2.2
  refine zCs.two (x_marker μ _ h.1 (Full_R0 h.2.1) hB.2.2.2.1 hB.2.2.2.2 p g) (fun μ1 w q => ?_)
  have e21 : μ1 (21, 0, 0) = μ (21, 0, 0) := by
    rcases q with ⟨_, _, rfl⟩ | ⟨_, _, _, rfl⟩ | ⟨_, _, _, hz, _⟩
    · rfl
    · rfl
    · exact zoT21 hz
  refine ⟨_, m_marker μ1 (rN (μ (21, 0, 0))) (rK (μ (21, 0, 0))) (by rw [e21]; exact hB.1) hB.2.1 hB.2.2.1 (by rw [e21]; exact hB.2.2.2.1) hB.2.2.2.2 p g, fun μ2 u q2 => ?_⟩
  rw [e21] at q2
  rcases q with ⟨a1, e, rfl⟩ | ⟨a1, a2, e, rfl⟩ | ⟨a1, a2, e, hz, hR⟩ <;> rcases q2 with ⟨b1, e2, rfl⟩ | ⟨b1, b2, e2, rfl⟩ | ⟨b1, b2, e2, rfl⟩
  · exact ⟨e2.trans e.symm, h⟩
  · exact absurd b1 a1
  · exact absurd b1 a1
  · exact absurd a1 b1
  · exact ⟨e2.trans e.symm, h⟩
  · exact absurd b2 (by omega)
  · exact absurd a1 b1
  · exact absurd b2 (by omega)
  · exact ⟨e2.trans e.symm, J_row h (zoT.o01 hz) hR (Full_marker h.2.1 a2 a1.1 a1.2) (zoff_st21 μ1 _) (fun k hk => by rw [st_eq])⟩
