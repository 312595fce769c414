/-- a row whose momenta alone have changed -/
theorem Full_mom {a b : Nat → Int32} (h : Full a) (up : ∀ k, (k < 9 ∨ 21 ≤ k) → b k = a k) (hv : ∀ t : Nat, IP a t → IP b t) : Full b := by
  obtain ⟨t, ht, h1, ⟨hB, hS, hD, hM⟩, hG, hP⟩ := h
  have en : rN b = rN a := by unfold rN; rw [up 0 (by omega)]
  have ek : rK b = rK a := by unfold rK; rw [up 33 (by omega)]
  have eS : ∀ i, i < 7 → aS b i = aS a i := fun i hi => up _ (by omega)
  refine ⟨t, ht, (up 1 (by omega)).trans h1, ⟨?_, ?_, ?_, ?_⟩, ?_, hv t hP⟩
  · unfold IB at hB ⊢
    rw [en, ek, up 0 (by omega), up 33 (by omega)]
    exact hB
  · unfold IS at hS ⊢
    rw [eS 0 (by omega), eS 1 (by omega), eS 2 (by omega), eS 3 (by omega), eS 4 (by omega), eS 6 (by omega)]
    exact hS
  · intro c hc
    rw [en]
    exact DI_congr hB.2.2.1 (fun i hi => up _ (by omega)) (hD c hc)
  · intro m hm
    rw [ek] at hm
    rw [en, up _ (by omega), up _ (by omega)]
    exact hM m hm
  · intro m hm
    rw [ek] at hm
    rw [up _ (by omega)]
    exact hG m hm
/-- momenta of which some are set by velocities within the bound -/
theorem VB_some {P Q : Nat → Int32} {B : Int} (hB : 2000 ≤ B) (h : VB P B) (hq : ∀ r, r < 12 → Q r = P r ∨ (-1500 ≤ (vel Q r).toInt ∧ (vel Q r).toInt ≤ 1500)) : VB Q B := by
  have b1 := h.1 1 (by omega) (by omega)
  have b0 := h.2.1
  have b2 := h.2.2
  refine ⟨fun r h1 hr => ?_, ?_, ?_⟩
  · rcases hq r hr with e | e
    · rw [vel_congr e]; exact h.1 r h1 hr
    · omega
  · rcases hq 0 (by omega) with e | e
    · rw [vel_congr e]; exact b0
    · omega
  · rcases hq 0 (by omega) with e | e <;> rcases hq 1 (by omega) with e' | e'
    · rw [vel_congr e, vel_congr e']; exact b2
    · rw [vel_congr e]; omega
    · rw [vel_congr e']; omega
    · omega
theorem vel_set {P : Nat → Int32} {r : Nat} {v : Int32} (hr : r < 12) (hv : -1500 ≤ v.toInt ∧ v.toInt ≤ 1500) (e : P r = v * nI (2 * r + 1)) : (vel P r).toInt = v.toInt := by
  have ew := nI_toInt (n := 2 * r + 1) (by omega)
  have g1 := Int.mul_le_mul_of_nonneg_right hv.1 (show (0 : Int) ≤ (2 * r + 1 : Nat) by omega)
  have g2 := Int.mul_le_mul_of_nonneg_right hv.2 (show (0 : Int) ≤ (2 * r + 1 : Nat) by omega)
  rw [vel_int P hr, e, Int32.toInt_mul, ew, Int.bmod_eq_of_le (by omega) (by omega), Int.mul_ediv_cancel _ (by omega)]
