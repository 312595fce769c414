/-! the reference's calls that set: what each answers, what it leaves in the row -/
abbrev takesP (s v : Int32) : Prop := (s = 0 ∨ s = 1 ∨ s = 3) ∧ (0 ≤ v ∧ v ≤ 100) ∨ (s = 2 ∨ s = 4) ∧ (-1500 ≤ v ∧ v ≤ 1500) ∨ s = 5 ∧ (0 ≤ v ∧ v ≤ 200) ∨ s = 6 ∧ (0 ≤ v ∧ v ≤ 500)
theorem zb_ok {c : Prop} [Decidable c] : zb c = 0 ∨ zb c = 1 := by
  unfold zb
  split
  · exact Or.inr rfl
  · exact Or.inl rfl
theorem takes_ix {s v : Int32} (h : takesP s v) : ∃ j : Nat, j < 7 ∧ s = nI j := by
  rcases h with ⟨h | h | h, _⟩ | ⟨h | h, _⟩ | ⟨h, _⟩ | ⟨h, _⟩
  · exact ⟨0, by omega, h⟩
  · exact ⟨1, by omega, h⟩
  · exact ⟨3, by omega, h⟩
  · exact ⟨2, by omega, h⟩
  · exact ⟨4, by omega, h⟩
  · exact ⟨5, by omega, h⟩
  · exact ⟨6, by omega, h⟩
/-- an amount in the calls' words -/
theorem fmd_ex (x : Int32) {m : Nat} (hm : 0 < m) (h : m < 2 ^ 31) : ∃ j, j < m ∧ fmd x (nI m) = nI j := by
  have h0 := nI_toInt h
  obtain ⟨c, h1, h2⟩ := fmv_nat (a := x) (m := nI m) (by rw [h0]; omega)
  rw [h0] at h2
  exact ⟨c, by omega, by rw [fmd_fmv (by rw [h0]; omega)]; exact h1⟩
def cel (a : Nat → Int32) (r : Nat) (s : Int32) : Nat := (fmd (s - aA a r / 150) 24).toNatClampNeg
theorem cel_eq (a : Nat → Int32) (r : Nat) (s : Int32) : cel a r s < 24 ∧ fmd (s - aA a r / 150) 24 = nI (cel a r s) := by
  obtain ⟨j, hj, e⟩ := fmd_ex (s - aA a r / 150) (m := 24) (by omega) (by omega)
  have e' : fmd (s - aA a r / 150) 24 = nI j := e
  unfold cel
  rw [e', nI_clamp (by omega)]
  exact ⟨hj, rfl⟩
abbrev isPl (n : Nat) (c L r s : Int32) : Prop := (0 ≤ c ∧ c ≤ 2) ∧ (0 ≤ L ∧ L ≤ 1) ∧ (0 ≤ r ∧ r ≤ nI n - 1) ∧ (0 ≤ s ∧ s ≤ 23)
theorem isPl_ix {n : Nat} {c L r s : Int32} (hn : 1 ≤ n) (hn12 : n ≤ 12) (h : isPl n c L r s) : ∃ c' L' r' : Nat, c' < 3 ∧ L' < 2 ∧ r' < n ∧ c = nI c' ∧ L = nI L' ∧ r = nI r' := by
  obtain ⟨hc, hL, hr, _⟩ := h
  obtain ⟨c', h1, e1⟩ := (rngP (n := 3) (by omega) (by omega)).mp hc
  obtain ⟨L', h2, e2⟩ := (rngP (n := 2) (by omega) (by omega)).mp hL
  obtain ⟨r', h3, e3⟩ := (rngP (n := n) (by omega) (by omega)).mp hr
  exact ⟨c', L', r', h1, h2, h3, e1, e2, e3⟩
def dix (c L r j : Nat) : Nat := 658 + (576 * c + (rwi L r + j))
theorem dix_lt {c L r j : Nat} (hc : c < 3) (hL : L < 2) (hr : r < 12) (hj : j < 24) : dix c L r j < 2386 := by
  unfold dix rwi
  omega
