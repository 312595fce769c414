/-- a marker of the reference has made a step -/
def plN (a : Nat → Int32) (w : Nat) : Int32 := mvp (1000 * a 0 - 1) (a w) (psh (aS a) (aP a) (rgo (a w)))
def anN (a : Nat → Int32) (w : Nat) : Int32 := fmd (a (w + 1) + vel (aP a) (rgo (a w))) 3600
def MN (a a' : Nat → Int32) (w : Nat) : Prop := a' w = plN a w ∧ a' (w + 1) = anN a w ∧ a' (w + 2) = a (w + 2) + 1 ∧ a' (w + 3) = (if plN a w / 1000 = a w / 1000 then a (w + 3) else a (w + 3) + 1) ∧ a' (w + 4 + 2 * ((a (w + 2)).toNatClampNeg % 50)) = plN a w ∧ a' (w + 5 + 2 * ((a (w + 2)).toNatClampNeg % 50)) = anN a w ∧ (∀ j, j < 50 → j ≠ (a (w + 2)).toNatClampNeg % 50 → a' (w + 4 + 2 * j) = a (w + 4 + 2 * j) ∧ a' (w + 5 + 2 * j) = a (w + 5 + 2 * j)) ∧ ∀ k, (k < w ∨ w + 104 ≤ k) → a' k = a k
theorem mvp_pl {last p x : Int32} (hl : 0 < last) : (if 0 ≤ p + x then (if p + x ≤ last then p + x else last) else 0) = mvp last p x := by
  unfold mvp
  by_cases h1 : 0 ≤ p + x
  · rw [if_pos h1]
    by_cases h2 : p + x < last
    · rw [if_pos h2, if_pos (Int32.le_of_lt h2)]
      by_cases h3 : 0 < p + x
      · rw [if_pos h3]
      · rw [if_neg h3]
        exact Int32.le_antisymm (Int32.not_lt.mp h3) h1
    · rw [if_neg h2, if_pos hl]
      by_cases h3 : p + x ≤ last
      · rw [if_pos h3]
        exact Int32.le_antisymm h3 (Int32.not_lt.mp h2)
      · rw [if_neg h3]
  · rw [if_neg h1]
    have h2 : p + x < last := Int32.lt_trans (Int32.not_le.mp h1) hl
    rw [if_pos h2, if_neg (fun q => h1 (Int32.le_of_lt q))]
def beg (n : Int32) : Nat → Int32 := fun k => if k = 0 then n else if k = 2 then 20 else if k = 3 then 10 else if k = 5 then 5 else if k = 7 then 50 else if k = 8 then 20 else 0
