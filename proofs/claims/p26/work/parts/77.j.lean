/-! class and reference side by side -/
theorem Full_R0 {a : Nat → Int32} (h : Full a) : R0 a := by
  obtain ⟨t, ht, h1, ⟨hB, _⟩, _⟩ := h
  exact ⟨hB.1, hB.2.1, hB.2.2.1⟩
theorem Full_row {a b : Nat → Int32} (h : Full a) (he : ∀ k, k < 2386 → b k = a k) : Full b := by
  obtain ⟨t, ht, h1, ⟨hB, hS, hD, hM⟩, hG, hP⟩ := h
  have hk6 := hB.2.2.2.2
  have en : rN b = rN a := by unfold rN; rw [he 0 (by omega)]
  have ek : rK b = rK a := by unfold rK; rw [he 33 (by omega)]
  have eS : ∀ i, i < 7 → aS b i = aS a i := fun i hi => he _ (by omega)
  refine ⟨t, ht, (he 1 (by omega)).trans h1, ⟨?_, ?_, ?_, ?_⟩, ?_, ?_⟩
  · unfold IB at hB ⊢
    rw [en, ek, he 0 (by omega), he 33 (by omega)]
    exact hB
  · unfold IS at hS ⊢
    rw [eS 0 (by omega), eS 1 (by omega), eS 2 (by omega), eS 3 (by omega), eS 4 (by omega), eS 6 (by omega)]
    exact hS
  · intro c hc
    rw [en]
    exact DI_congr hB.2.2.1 (fun i hi => he _ (by omega)) (hD c hc)
  · intro m hm
    rw [ek] at hm
    rw [en, he _ (by omega), he _ (by omega)]
    exact hM m hm
  · intro m hm
    rw [ek] at hm
    rw [he _ (by omega)]
    exact hG m hm
  · exact VB_congr (fun r hr => he _ (by omega)) hP
