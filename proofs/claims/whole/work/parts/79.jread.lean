/-! the calls that change nothing -/
theorem j_ring (μ : zM) (h : J μ) (x w : Int32) : zCs yX3_ring prog_1_method_8_code 3 (some .int) 4 [zR (0, 0, 0), zI x, zI w] μ (fun μ1 v => zCs yX4_ring prog_6_method_31_code 3 (some .int) 4 [zR (20, 0, 0), zI x, zI w] μ1 (fun μ2 u => u = v ∧ J μ2)) := by
  have hB := Full_IB h.2.1
  exact zCi.two (x_ring μ _ h.1 (Full_R0 h.2.1) x w) (m_ring μ _ hB.1 hB.2.1 hB.2.2.1 x w) h
theorem j_dye (μ : zM) (h : J μ) (c L r s : Int32) : zCs yX3_dye prog_1_method_9_code 5 (some .int) 4 [zR (0, 0, 0), zI c, zI L, zI r, zI s] μ (fun μ1 v => zCs yX4_dye prog_6_method_32_code 5 (some .int) 4 [zR (20, 0, 0), zI c, zI L, zI r, zI s] μ1 (fun μ2 u => u = v ∧ J μ2)) := by
  have hB := Full_IB h.2.1
  exact zCi.two (x_dye μ _ h.1 (Full_R0 h.2.1) c L r s) (m_dye μ _ hB.1 hB.2.1 hB.2.2.1 c L r s) h
theorem j_colour (μ : zM) (h : J μ) (x w : Int32) : ∃ v, zCl yX3_colour prog_1_method_10_code 3 (some .long) 5 [zR (0, 0, 0), zI x, zI w] μ v ∧ zCl yX4_colour prog_6_method_38_code 3 (some .long) 5 [zR (20, 0, 0), zI x, zI w] μ v := by
  have hB := Full_IB h.2.1
  exact ⟨_, x_colour μ _ h.1 (Full_R0 h.2.1) x w, m_colour μ _ hB.1 hB.2.1 hB.2.2.1 x w⟩
theorem j_state (μ : zM) (h : J μ) (w : Int32) : zCs yX3_state prog_1_method_11_code 2 (some .int) 4 [zR (0, 0, 0), zI w] μ (fun μ1 v => zCs yX4_state prog_6_method_40_code 2 (some .int) 4 [zR (20, 0, 0), zI w] μ1 (fun μ2 u => u = v ∧ J μ2)) := by
  have hB := Full_IB h.2.1
  obtain ⟨l, s, s', w', k, hl, hD, hT, hc⟩ := h.2.2.2
  have e : μ (20, 0, 0) 7 = μ (3, 0, 0) 0 := hT.1.trans hD.1.symm
  have hm := m_state μ _ hB.1 hB.2.1 hB.2.2.1 w
  rw [e] at hm
  exact zCi.two (x_state μ _ h.1 (Full_R0 h.2.1) w) hm h
theorem j_where (μ : zM) (h : J μ) (x w : Int32) : zCs yX3_where prog_1_method_13_code 4 (some .int) 3 [zR (0, 0, 0), zI x, zI w] μ (fun μ1 v => zCs yX4_where prog_6_method_44_code 4 (some .int) 3 [zR (20, 0, 0), zI x, zI w] μ1 (fun μ2 u => u = v ∧ J μ2)) := by
  have hB := Full_IB h.2.1
  exact zCi.two (x_where μ _ h.1 hB.2.2.2.1 hB.2.2.2.2 (Full_kept h.2.1) x w) (m_where μ _ hB.2.2.2.1 hB.2.2.2.2 x w) h
theorem j_path (μ : zM) (h : J μ) (x b w : Int32) : zCs yX3_path prog_1_method_14_code 5 (some .int) 4 [zR (0, 0, 0), zI x, zI b, zI w] μ (fun μ1 v => zCs yX4_path prog_6_method_45_code 5 (some .int) 3 [zR (20, 0, 0), zI x, zI b, zI w] μ1 (fun μ2 u => u = v ∧ J μ2)) := by
  have hB := Full_IB h.2.1
  exact zCi.two (x_path μ _ h.1 hB.2.2.2.1 hB.2.2.2.2 (Full_kept h.2.1) x b w) (m_path μ _ hB.2.2.2.1 hB.2.2.2.2 (Full_kept h.2.1) x b w) h
