theorem Full_doA {a : Nat → Int32} {L : List Int32} (h : Full a) (_hS : SL L) : Full (doA a L).2 := by
  have hB : IB a := h.choose_spec.2.2.1.1
  by_cases k1 : L.getD 0 0 = 116
  · rw [show doA a L = _ from if_pos k1]
    by_cases c : (1 ≤ L.getD 1 0 ∧ L.getD 1 0 ≤ 1000) ∧ a 1 + L.getD 1 0 ≤ 100000
    · rw [if_pos c]
      obtain ⟨M, hM, e⟩ : ∃ M : Nat, M < 1001 ∧ L.getD 1 0 = nI M := (rngS (by omega)).mp ⟨Int32.le_trans (by decide) c.1.1, Int32.lt_of_le_of_lt c.1.2 (by decide)⟩
      show Full (itF (L.getD 1 0).toNatClampNeg a)
      rw [e, nI_clamp (by omega)]
      exact Full_it h (by omega) (by rw [← e]; exact c.2)
    · rw [if_neg c]
      exact h
  · by_cases k2 : L.getD 0 0 = 118
    · rw [show doA a L = _ from (if_neg k1).trans (if_pos k2)]
      by_cases c : (0 ≤ L.getD 1 0 ∧ L.getD 1 0 ≤ nI (rN a) - 1) ∧ (-1500 ≤ L.getD 2 0 ∧ L.getD 2 0 ≤ 1500)
      · rw [if_pos c]
        obtain ⟨r, hr, e⟩ := (rngP (n := rN a) (by have := hB.2.1; omega) (by have := hB.2.2.1; omega)).mp c.1
        show Full (upd a (9 + (L.getD 1 0).toNatClampNeg) (L.getD 2 0 * nI (2 * (L.getD 1 0).toNatClampNeg + 1)))
        rw [e, nI_clamp (by have := hB.2.2.1; omega)]
        exact Full_spin h (by have := hB.2.2.1; omega) c.2
      · rw [if_neg c]
        exact h
    · rw [show doA a L = _ from (if_neg k1).trans (if_neg k2)]
      by_cases c : isPl (rN a) (L.getD 1 0) (L.getD 2 0) (L.getD 3 0) (L.getD 4 0) ∧ (1 ≤ L.getD 5 0 ∧ L.getD 5 0 ≤ 1000000) ∧ allA (aD a (L.getD 1 0).toNatClampNeg) (rN a) + L.getD 5 0 ≤ 10000000
      · rw [if_pos c]
        obtain ⟨c', L', r', h3, h4, h5, e1, e2, e3⟩ := isPl_ix (by have := hB.2.1; omega) hB.2.2.1 c.1
        have q1 : (L.getD 1 0).toNatClampNeg = c' := by rw [e1]; exact nI_clamp (by omega)
        have q2 : (L.getD 2 0).toNatClampNeg = L' := by rw [e2]; exact nI_clamp (by omega)
        have q3 : (L.getD 3 0).toNatClampNeg = r' := by rw [e3]; exact nI_clamp (by have := hB.2.2.1; omega)
        have cT := c.2.2
        rw [q1] at cT
        show Full (upd a (dix (L.getD 1 0).toNatClampNeg (L.getD 2 0).toNatClampNeg (L.getD 3 0).toNatClampNeg (cel a (L.getD 3 0).toNatClampNeg (L.getD 4 0))) (a (dix (L.getD 1 0).toNatClampNeg (L.getD 2 0).toNatClampNeg (L.getD 3 0).toNatClampNeg (cel a (L.getD 3 0).toNatClampNeg (L.getD 4 0))) + L.getD 5 0))
        rw [q1, q2, q3]
        exact Full_pour h h3 h4 h5 c.2.1 cT
      · rw [if_neg c]
        exact h
