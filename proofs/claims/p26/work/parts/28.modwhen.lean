/-! the reference's forecasts: the first number of ticks at which something holds -/
theorem tickF_lo {a : Nat → Int32} {k : Nat} (h : k < 9 ∨ k = 33) (h1 : k ≠ 1) : tickF a k = a k := by
  unfold tickF midA
  rw [if_neg h1, if_neg (by omega), dyeA_lo (by omega), turnA_lo (by omega)]
theorem itF_lo (a : Nat → Int32) {k : Nat} (h : k < 9 ∨ k = 33) (h1 : k ≠ 1) : ∀ i, itF i a k = a k
  | 0 => rfl
  | i + 1 => (tickF_lo h h1).trans (itF_lo a h h1 i)
def FST (h : Nat → Bool) (most : Nat) (w : Int32) : Prop := (∃ k, k ≤ most ∧ h k = true ∧ (∀ j, j < k → h j = false) ∧ w = nI k) ∨ ((∀ j, j ≤ most → h j = false) ∧ w = -6)
theorem FST_eq {h : Nat → Bool} {most : Nat} {w w' : Int32} (q : FST h most w) (q' : FST h most w') : w = w' := by
  rcases q with ⟨k, hk, h1, h2, e⟩ | ⟨h1, e⟩ <;> rcases q' with ⟨k', hk', h1', h2', e'⟩ | ⟨h1', e'⟩
  · rw [e, e']
    congr 1
    rcases Nat.lt_trichotomy k k' with hlt | heq | hgt
    · rw [h2' k hlt] at h1; exact absurd h1 (by decide)
    · exact heq
    · rw [h2 k' hgt] at h1'; exact absurd h1' (by decide)
  · rw [h1' k hk] at h1; exact absurd h1 (by decide)
  · rw [h1 k' hk'] at h1'; exact absurd h1' (by decide)
  · rw [e, e']
def holdB (a : Nat → Int32) (n : Nat) (w x y z : Int32) : Bool := if w = 0 then settB a n x else if w = 1 then partB a n x.toNatClampNeg y.toNatClampNeg z else nearB a x.toNatClampNeg y.toNatClampNeg z
def hOK (n : Nat) (w x y : Int32) : Prop := w = 0 ∨ (w = 1 ∧ (∃ c, c < 3 ∧ x = nI c) ∧ ∃ r, r < n ∧ y = nI r) ∨ (w = 2 ∧ (∃ i, i < 6 ∧ x = nI i) ∧ ∃ j, j < 6 ∧ y = nI j)
