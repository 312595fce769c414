/-! the reference's tick as a function of its row -/
theorem sw_of {x : Int32} {k : Nat} (hk : k < 2 ^ 31) (h : x.toInt = k) : x = nI k := by
  apply Int32.toInt_inj.mp
  rw [h, nI_toInt hk]
theorem sw4 (x : Int32) : x = 0 ∨ x = 1 ∨ x = 2 ∨ x = 3 ∨ x = 4 ∨ (x.toInt < 0 ∨ 4 < x.toInt) := by
  by_cases h : x.toInt < 0 ∨ 4 < x.toInt
  · exact Or.inr (Or.inr (Or.inr (Or.inr (Or.inr h))))
  · have : x.toInt = 0 ∨ x.toInt = 1 ∨ x.toInt = 2 ∨ x.toInt = 3 ∨ x.toInt = 4 := by omega
    rcases this with h | h | h | h | h
    · exact Or.inl (sw_of (k := 0) (by decide) h)
    · exact Or.inr (Or.inl (sw_of (k := 1) (by decide) h))
    · exact Or.inr (Or.inr (Or.inl (sw_of (k := 2) (by decide) h)))
    · exact Or.inr (Or.inr (Or.inr (Or.inl (sw_of (k := 3) (by decide) h))))
    · exact Or.inr (Or.inr (Or.inr (Or.inr (Or.inl (sw_of (k := 4) (by decide) h)))))
theorem sw5 (x : Int32) : x = 0 ∨ x = 1 ∨ x = 2 ∨ x = 3 ∨ x = 4 ∨ x = 5 ∨ (x.toInt < 0 ∨ 5 < x.toInt) := by
  rcases sw4 x with h | h | h | h | h | h
  · exact Or.inl h
  · exact Or.inr (Or.inl h)
  · exact Or.inr (Or.inr (Or.inl h))
  · exact Or.inr (Or.inr (Or.inr (Or.inl h)))
  · exact Or.inr (Or.inr (Or.inr (Or.inr (Or.inl h))))
  · by_cases h5 : x.toInt = 5
    · exact Or.inr (Or.inr (Or.inr (Or.inr (Or.inr (Or.inl (sw_of (k := 5) (by decide) h5))))))
    · exact Or.inr (Or.inr (Or.inr (Or.inr (Or.inr (Or.inr (by omega))))))
theorem sw6 (x : Int32) : x = 0 ∨ x = 1 ∨ x = 2 ∨ x = 3 ∨ x = 4 ∨ x = 5 ∨ x = 6 ∨ (x.toInt < 0 ∨ 6 < x.toInt) := by
  rcases sw5 x with h | h | h | h | h | h | h
  · exact Or.inl h
  · exact Or.inr (Or.inl h)
  · exact Or.inr (Or.inr (Or.inl h))
  · exact Or.inr (Or.inr (Or.inr (Or.inl h)))
  · exact Or.inr (Or.inr (Or.inr (Or.inr (Or.inl h))))
  · exact Or.inr (Or.inr (Or.inr (Or.inr (Or.inr (Or.inl h)))))
  · by_cases h5 : x.toInt = 6
    · exact Or.inr (Or.inr (Or.inr (Or.inr (Or.inr (Or.inr (Or.inl (sw_of (k := 6) (by decide) h5)))))))
    · exact Or.inr (Or.inr (Or.inr (Or.inr (Or.inr (Or.inr (Or.inr (by omega)))))))
def rN (a : Nat → Int32) : Nat := (a 0).toNatClampNeg
def rK (a : Nat → Int32) : Nat := (a 33).toNatClampNeg
def midA (a : Nat → Int32) : Nat → Int32 := dyeA (rN a) (turnA (rN a) a)
def mkF (b : Nat → Int32) (w j : Nat) : Int32 :=
  if j = 0 then plN b w else if j = 1 then anN b w else if j = 2 then b (w + 2) + 1
  else if j = 3 then (if plN b w / 1000 = b w / 1000 then b (w + 3) else b (w + 3) + 1)
  else if (j - 4) / 2 = (b (w + 2)).toNatClampNeg % 50 then (if j % 2 = 0 then plN b w else anN b w) else b (w + j)
def tickF (a : Nat → Int32) (k : Nat) : Int32 :=
  if k = 1 then a 1 + 1 else if 34 ≤ k ∧ k < 34 + 104 * rK a then mkF (midA a) (34 + 104 * ((k - 34) / 104)) ((k - 34) % 104) else midA a k
theorem MC_at {b a' : Nat → Int32} {w j : Nat} (h : MC b a' w) (hj : j < 104) : a' (w + j) = mkF b w j := by
  obtain ⟨h0, h1, h2, h3, h4, h5, h6⟩ := h
  unfold mkF
  by_cases e0 : j = 0
  · rw [if_pos e0, e0]; exact h0
  rw [if_neg e0]
  by_cases e1 : j = 1
  · rw [if_pos e1, e1]; exact h1
  rw [if_neg e1]
  by_cases e2 : j = 2
  · rw [if_pos e2, e2]; exact h2
  rw [if_neg e2]
  by_cases e3 : j = 3
  · rw [if_pos e3, e3]; exact h3
  rw [if_neg e3]
  by_cases e4 : (j - 4) / 2 = (b (w + 2)).toNatClampNeg % 50
  · rw [if_pos e4]
    by_cases ev : j % 2 = 0
    · rw [if_pos ev, ← h4, ← e4]
      congr 1
      omega
    · rw [if_neg ev, ← h5, ← e4]
      congr 1
      omega
  · rw [if_neg e4]
    obtain ⟨q1, q2⟩ := h6 ((j - 4) / 2) (by omega) e4
    by_cases ev : j % 2 = 0
    · rw [show w + j = w + 4 + 2 * ((j - 4) / 2) by omega]; exact q1
    · rw [show w + j = w + 5 + 2 * ((j - 4) / 2) by omega]; exact q2
theorem TKR_eq {a a' : Nat → Int32} (h : TKR (rN a) (rK a) a a') : a' = tickF a := by
  funext k
  obtain ⟨h1, h2, h3⟩ := h
  unfold tickF
  by_cases e1 : k = 1
  · rw [if_pos e1, e1]; exact h2
  rw [if_neg e1]
  by_cases e2 : 34 ≤ k ∧ k < 34 + 104 * rK a
  · rw [if_pos e2]
    have hm : (k - 34) / 104 < rK a := by omega
    have := MC_at (j := (k - 34) % 104) (h1 _ hm) (Nat.mod_lt _ (by omega))
    refine Eq.trans ?_ this
    congr 1
    omega
  · rw [if_neg e2]
    exact h3 k e1 (by omega)
/-- what a tick asks of the row -/
def Wf (a : Nat → Int32) : Prop := a 0 = nI (rN a) ∧ 2 ≤ rN a ∧ rN a ≤ 12 ∧ a 33 = nI (rK a) ∧ rK a ≤ 6 ∧ ∀ m, m < rK a → ∃ p g, p < 1000 * rN a ∧ g < 2 ^ 29 ∧ a (34 + 104 * m) = nI p ∧ a (34 + 104 * m + 2) = nI g
/-- a number within a range below a bound -/
theorem rngS {x : Int32} {n : Nat} (hn : n < 2 ^ 31) : (0 ≤ x ∧ x < nI n) ↔ ∃ r, r < n ∧ x = nI r := by
  constructor
  · intro ⟨h0, h1⟩
    rw [Int32.le_iff_toInt_le, Int32.toInt_zero] at h0
    rw [Int32.lt_iff_toInt_lt, nI_toInt hn] at h1
    exact ⟨x.toInt.toNat, by omega, sw_of (by omega) (by omega)⟩
  · intro ⟨r, hr, e⟩
    rw [e]
    exact ⟨by rw [Int32.le_iff_toInt_le, Int32.toInt_zero, nI_toInt (by omega)]; omega, (nI_ltI (by omega) hn).mpr hr⟩
theorem rngP {x : Int32} {n : Nat} (h1 : 1 ≤ n) (hn : n < 2 ^ 31) : (0 ≤ x ∧ x ≤ nI n - 1) ↔ ∃ r, r < n ∧ x = nI r := by
  obtain ⟨m, rfl⟩ : ∃ m, n = m + 1 := ⟨n - 1, by omega⟩
  rw [show nI (m + 1) - 1 = nI m from nI_pred m]
  constructor
  · intro ⟨h0, h1⟩
    rw [Int32.le_iff_toInt_le, Int32.toInt_zero] at h0
    rw [Int32.le_iff_toInt_le, nI_toInt (by omega)] at h1
    exact ⟨x.toInt.toNat, by omega, sw_of (by omega) (by omega)⟩
  · intro ⟨r, hr, e⟩
    rw [e]
    exact ⟨by rw [Int32.le_iff_toInt_le, Int32.toInt_zero, nI_toInt (by omega)]; omega, (nI_leI (by omega) (by omega)).mpr (by omega)⟩
