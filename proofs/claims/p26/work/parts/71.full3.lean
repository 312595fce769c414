theorem takes_SS {j : Nat} {v : Int32} (h : takesP (nI j) v) (hj : j < 7) : (j = 0 ∨ j = 1 ∨ j = 3 → 0 ≤ v.toInt ∧ v.toInt ≤ 100) ∧ (j = 2 ∨ j = 4 → -1500 ≤ v.toInt ∧ v.toInt ≤ 1500) ∧ (j = 6 → 0 ≤ v.toInt ∧ v.toInt ≤ 500) := by
  have hh := (takes_tab hj v).mpr h
  have h1 := Int32.le_iff_toInt_le.mp hh.1
  have h2 := Int32.le_iff_toInt_le.mp hh.2
  rcases (show j = 0 ∨ j = 1 ∨ j = 2 ∨ j = 3 ∨ j = 4 ∨ j = 5 ∨ j = 6 by omega) with e | e | e | e | e | e | e <;> subst e
  · rw [show ((ztab 41).getD 0 0).toInt = 0 by decide] at h1
    rw [show ((ztab 42).getD 0 0).toInt = 100 by decide] at h2
    exact ⟨fun _ => ⟨h1, h2⟩, fun q => absurd q (by decide), fun q => absurd q (by decide)⟩
  · rw [show ((ztab 41).getD 1 0).toInt = 0 by decide] at h1
    rw [show ((ztab 42).getD 1 0).toInt = 100 by decide] at h2
    exact ⟨fun _ => ⟨h1, h2⟩, fun q => absurd q (by decide), fun q => absurd q (by decide)⟩
  · rw [show ((ztab 41).getD 2 0).toInt = -1500 by decide] at h1
    rw [show ((ztab 42).getD 2 0).toInt = 1500 by decide] at h2
    exact ⟨fun q => absurd q (by decide), fun _ => ⟨h1, h2⟩, fun q => absurd q (by decide)⟩
  · rw [show ((ztab 41).getD 3 0).toInt = 0 by decide] at h1
    rw [show ((ztab 42).getD 3 0).toInt = 100 by decide] at h2
    exact ⟨fun _ => ⟨h1, h2⟩, fun q => absurd q (by decide), fun q => absurd q (by decide)⟩
  · rw [show ((ztab 41).getD 4 0).toInt = -1500 by decide] at h1
    rw [show ((ztab 42).getD 4 0).toInt = 1500 by decide] at h2
    exact ⟨fun q => absurd q (by decide), fun _ => ⟨h1, h2⟩, fun q => absurd q (by decide)⟩
  · exact ⟨fun q => absurd q (by decide), fun q => absurd q (by decide), fun q => absurd q (by decide)⟩
  · rw [show ((ztab 41).getD 6 0).toInt = 0 by decide] at h1
    rw [show ((ztab 42).getD 6 0).toInt = 500 by decide] at h2
    exact ⟨fun q => absurd q (by decide), fun q => absurd q (by decide), fun _ => ⟨h1, h2⟩⟩
theorem Full_set {a : Nat → Int32} (h : Full a) {j : Nat} (hj : j < 7) {v : Int32} (hv : takesP (nI j) v) : Full (upd a (2 + j) v) := by
  obtain ⟨t, ht, h1, ⟨hB, hS, hD, hM⟩, hG, hP⟩ := h
  have up : ∀ k, k ≠ 2 + j → upd a (2 + j) v k = a k := fun k hk => if_neg hk
  have en : rN (upd a (2 + j) v) = rN a := by unfold rN; rw [up 0 (by omega)]
  have ek : rK (upd a (2 + j) v) = rK a := by unfold rK; rw [up 33 (by omega)]
  obtain ⟨t1, t2, t3⟩ := takes_SS hv hj
  have eS : ∀ i, aS (upd a (2 + j) v) i = if i = j then v else aS a i := by
    intro i
    by_cases e : i = j
    · rw [if_pos e, e]
      exact if_pos rfl
    · rw [if_neg e]
      exact if_neg (by omega)
  refine ⟨t, ht, (up 1 (by omega)).trans h1, ⟨?_, ?_, ?_, ?_⟩, ?_, ?_⟩
  · unfold IB at hB ⊢
    rw [en, ek, up 0 (by omega), up 33 (by omega)]
    exact hB
  · unfold IS at hS ⊢
    rw [eS, eS, eS, eS, eS, eS]
    obtain ⟨s0, s1, s2, s3, s4, s6⟩ := hS
    refine ⟨?_, ?_, ?_, ?_, ?_, ?_⟩ <;> split <;> rename_i e <;> first | assumption | exact t1 (by omega) | exact t2 (by omega) | exact t3 (by omega)
  · intro c hc
    rw [en]
    exact DI_congr hB.2.2.1 (fun i hi => up _ (by omega)) (hD c hc)
  · intro m hm
    rw [ek] at hm
    rw [en, up _ (by omega), up _ (by omega)]
    exact hM m hm
  · intro m hm
    rw [ek] at hm
    rw [up _ (by omega)]
    exact hG m hm
  · exact VB_congr (fun r hr => up _ (by omega)) hP
