/-! class and reference side by side -/
def JS (μ : zM) : Prop := ∀ i : Nat, i < 2 → μ (2, 0, 0) i = μ (24, 0, 0) i ∧ (μ (24, 0, 0) i = 0 ∨ μ (24, 0, 0) i = 1) ∧ (¬ μ (24, 0, 0) i = 0 → Rep μ (2 + i) (fun j => μ (23, 0, 0) (2386 * i + j)) ∧ Full (fun j => μ (23, 0, 0) (2386 * i + j)))
def JP (μ : zM) : Prop := ∃ l s s' w k, l ≤ 60 ∧ PD μ l s ∧ PSt μ l s' w k ∧ ∀ i, i < l → μ (4, 0, 0) i = μ (27, 0, 0) i
def J (μ : zM) : Prop := Rep μ 0 (μ (21, 0, 0)) ∧ Full (μ (21, 0, 0)) ∧ JS μ ∧ JP μ
theorem Full_R0 {a : Nat → Int32} (h : Full a) : R0 a := by
  obtain ⟨t, ht, h1, ⟨hB, _⟩, _⟩ := h
  exact ⟨hB.1, hB.2.1, hB.2.2.1⟩
theorem Full_row {a b : Nat → Int32} (h : Full a) (he : ∀ k, k < 2386 → b k = a k) : Full b := by
  obtain ⟨t, ht, h1, ⟨hB, hS, hD, hM⟩, hG, hP⟩ := h
  have hk6 := hB.2.2.2.2
  have en : rN b = rN a := by unfold rN; rw [he 0 (by omega)]
  have ek : rK b = rK a := by unfold rK; rw [he 33 (by omega)]
  have eS : ∀ i, i < 7 → aS b i = aS a i := fun i hi => he _ (by omega)
  refine ⟨t, ht, (he 1 (by omega)).trans h1, ⟨?_, ?_, ?_, ?_⟩, ?_, ?_⟩
  · unfold IB at hB ⊢
    rw [en, ek, he 0 (by omega), he 33 (by omega)]
    exact hB
  · unfold IS at hS ⊢
    rw [eS 0 (by omega), eS 1 (by omega), eS 2 (by omega), eS 3 (by omega), eS 4 (by omega), eS 6 (by omega)]
    exact hS
  · intro c hc
    rw [en]
    exact DI_congr hB.2.2.1 (fun i hi => he _ (by omega)) (hD c hc)
  · intro m hm
    rw [ek] at hm
    rw [en, he _ (by omega), he _ (by omega)]
    exact hM m hm
  · intro m hm
    rw [ek] at hm
    rw [he _ (by omega)]
    exact hG m hm
  · exact VB_congr (fun r hr => he _ (by omega)) hP
/-- slots and pads stand where their cells stand -/
theorem JS_frame {μ μ' : zM} (h : JS μ) (hf : ∀ k t i : Nat, (2 ≤ t ∨ k = 2 ∨ k = 23 ∨ k = 24) → μ' (k, t, i) = μ (k, t, i)) : JS μ' := by
  intro i hi
  rw [hf 2 0 0 (by omega), hf 23 0 0 (by omega), hf 24 0 0 (by omega)]
  obtain ⟨h1, h2, h3⟩ := h i hi
  exact ⟨h1, h2, fun q => ⟨Rep_frame (h3 q).1 (fun k j _ _ => hf k (2 + i) j (by omega)), (h3 q).2⟩⟩
theorem JP_frame {μ μ' : zM} (h : JP μ) (h3 : μ' (3, 0, 0) = μ (3, 0, 0)) (h4 : μ' (4, 0, 0) = μ (4, 0, 0)) (h20 : μ' (20, 0, 0) = μ (20, 0, 0)) (h27 : μ' (27, 0, 0) = μ (27, 0, 0)) : JP μ' := by
  unfold JP PD PSt at h ⊢
  rw [h3, h4, h20, h27]
  exact h
