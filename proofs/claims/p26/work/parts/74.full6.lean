theorem Full_marker {a : Nat → Int32} (h : Full a) (hk : rK a < 6) {p g : Int32} (hp : 0 ≤ p ∧ p ≤ 1000 * nI (rN a) - 1) (hg : 0 ≤ g ∧ g ≤ 3599) : Full (upd (upd (upd (upd (upd a (34 + 104 * rK a) p) (34 + 104 * rK a + 1) g) (34 + 104 * rK a + 2) 0) (34 + 104 * rK a + 3) 0) 33 (nI (rK a + 1))) := by
  obtain ⟨t, ht, h1, ⟨hB, hS, hD, hM⟩, hG, hP⟩ := h
  generalize hmk : rK a = mk at hk hM hG
  have hn12 := hB.2.2.1
  have up : ∀ k, k ≠ 33 → (k < 34 + 104 * mk ∨ 34 + 104 * mk + 4 ≤ k) → (upd (upd (upd (upd (upd a (34 + 104 * mk) p) (34 + 104 * mk + 1) g) (34 + 104 * mk + 2) 0) (34 + 104 * mk + 3) 0) 33 (nI (mk + 1))) k = a k := by
    intro k q1 q2
    unfold upd
    rw [if_neg q1, if_neg (by omega), if_neg (by omega), if_neg (by omega), if_neg (by omega)]
  have b33 : (upd (upd (upd (upd (upd a (34 + 104 * mk) p) (34 + 104 * mk + 1) g) (34 + 104 * mk + 2) 0) (34 + 104 * mk + 3) 0) 33 (nI (mk + 1))) 33 = nI (mk + 1) := if_pos rfl
  have w0 : (upd (upd (upd (upd (upd a (34 + 104 * mk) p) (34 + 104 * mk + 1) g) (34 + 104 * mk + 2) 0) (34 + 104 * mk + 3) 0) 33 (nI (mk + 1))) (34 + 104 * mk) = p := by
    unfold upd
    rw [if_neg (by omega), if_neg (by omega), if_neg (by omega), if_neg (by omega), if_pos rfl]
  have w1 : (upd (upd (upd (upd (upd a (34 + 104 * mk) p) (34 + 104 * mk + 1) g) (34 + 104 * mk + 2) 0) (34 + 104 * mk + 3) 0) 33 (nI (mk + 1))) (34 + 104 * mk + 1) = g := by
    unfold upd
    rw [if_neg (by omega), if_neg (by omega), if_neg (by omega), if_pos rfl]
  have w2 : (upd (upd (upd (upd (upd a (34 + 104 * mk) p) (34 + 104 * mk + 1) g) (34 + 104 * mk + 2) 0) (34 + 104 * mk + 3) 0) 33 (nI (mk + 1))) (36 + 104 * mk) = 0 := by
    unfold upd
    rw [if_neg (by omega), if_neg (by omega), if_pos (by omega)]
  generalize (upd (upd (upd (upd (upd a (34 + 104 * mk) p) (34 + 104 * mk + 1) g) (34 + 104 * mk + 2) 0) (34 + 104 * mk + 3) 0) 33 (nI (mk + 1))) = b at up b33 w0 w1 w2
  have en : rN b = rN a := by unfold rN; rw [up 0 (by omega) (by omega)]
  have ek : rK b = mk + 1 := by unfold rK; rw [b33, nI_clamp (by omega)]
  have eS : ∀ i, i < 7 → aS b i = aS a i := fun i hi => up _ (by omega) (by omega)
  have e1000 : 1000 * nI (rN a) = nI (1000 * rN a) := pk_mul 1000 (rN a)
  rw [e1000] at hp
  obtain ⟨pp, hpp, ep⟩ := (rngP (n := 1000 * rN a) (by have := hB.2.1; omega) (by omega)).mp hp
  obtain ⟨gg, hgg, eg⟩ : ∃ gg : Nat, gg < 3600 ∧ g = nI gg := (rngP (n := 3600) (by omega) (by omega)).mp hg
  refine ⟨t, ht, (up 1 (by omega) (by omega)).trans h1, ⟨?_, ?_, ?_, ?_⟩, ?_, ?_⟩
  · unfold IB at hB ⊢
    rw [en, ek, up 0 (by omega) (by omega)]
    exact ⟨hB.1, hB.2.1, hB.2.2.1, b33, by omega⟩
  · unfold IS at hS ⊢
    rw [eS 0 (by omega), eS 1 (by omega), eS 2 (by omega), eS 3 (by omega), eS 4 (by omega), eS 6 (by omega)]
    exact hS
  · intro c hc
    rw [en]
    exact DI_congr hn12 (fun i hi => up _ (by omega) (by omega)) (hD c hc)
  · intro m hm
    rw [ek] at hm
    rw [en]
    by_cases e : m = mk
    · subst e
      exact ⟨pp, 0, hpp, by omega, w0.trans ep, w2⟩
    · rw [up _ (by omega) (by omega), up _ (by omega) (by omega)]
      exact hM m (by omega)
  · intro m hm
    rw [ek] at hm
    by_cases e : m = mk
    · subst e
      exact ⟨gg, hgg, w1.trans eg⟩
    · rw [up _ (by omega) (by omega)]
      exact hG m (by omega)
  · exact VB_congr (fun r hr => up _ (by omega) (by omega)) hP
