theorem nI_int {k : Nat} (h : k < 2 ^ 31) : (nI k).toInt = k := nI_toInt h
theorem Full_beg {x : Int32} (h : 2 ≤ x ∧ x ≤ 12) : Full (beg x) := by
  obtain ⟨n, hn, e⟩ : ∃ n : Nat, n < 13 ∧ x = nI n := (rngS (by omega)).mp ⟨Int32.le_trans (by decide) h.1, Int32.lt_of_le_of_lt h.2 (by decide)⟩
  have hn2 : 2 ≤ n := nle (a := 2) (by rw [← e]; exact h.1)
  have e0 : beg x 0 = nI n := e
  have eN : rN (beg x) = n := by unfold rN; rw [e0, nI_clamp (by omega)]
  have eK : rK (beg x) = 0 := by unfold rK; rw [beg_0 x (by omega)]; rfl
  have vz : ∀ r, r < 12 → (vel (aP (beg x)) r).toInt = 0 := fun r hr => by
    rw [vel_int _ hr, show aP (beg x) r = 0 from beg_0 x (by omega), Int32.toInt_zero, Int.zero_ediv]
  refine ⟨0, by omega, beg_0 x (by omega), ⟨?_, ?_, ?_, ?_⟩, ?_, ?_⟩
  · exact ⟨by rw [eN]; exact e0, by rw [eN]; exact hn2, by rw [eN]; omega, by rw [eK]; exact beg_0 x (by omega), by rw [eK]; omega⟩
  · unfold IS
    rw [← beg_S x (j := 0) (by omega), ← beg_S x (j := 1) (by omega), ← beg_S x (j := 2) (by omega), ← beg_S x (j := 3) (by omega), ← beg_S x (j := 4) (by omega), ← beg_S x (j := 6) (by omega)]
    decide
  · intro c hc
    have z : ∀ i, aD (beg x) c i = 0 := fun i => beg_0 x (by omega)
    refine ⟨fun i _ => by rw [z i]; decide, fun i _ _ => z i, ?_⟩
    unfold inS
    rw [smZ_zero _ (fun k _ => by rw [z k]; rfl), smZ_zero _ (fun k _ => by show (aD (beg x) c (288 + k)).toInt = 0; rw [z]; rfl)]
    decide
  · intro m hm
    rw [eK] at hm
    exact absurd hm (by omega)
  · intro m hm
    rw [eK] at hm
    exact absurd hm (by omega)
  · unfold IP VB
    rw [vz 0 (by omega), vz 1 (by omega)]
    exact ⟨fun r _ hr => by rw [vz r hr]; omega, by omega, by omega⟩
