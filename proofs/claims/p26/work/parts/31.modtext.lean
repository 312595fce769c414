/-! texts: one pure parser, as the reference goes; its first calls -/
def chr (p : Nat → Int32) (l i : Nat) : Int32 := if i < l then p i else 0
def numL (ch : Nat → Int32) (most : Int32) : Nat → Int32 → Nat → Int32 × Nat
  | 0, v, s => (v, s)
  | f + 1, v, s => if 0 < v ∧ (48 ≤ ch s ∧ ch s ≤ 57) ∧ 10 * v + ch s - 48 ≤ most then numL ch most f (10 * v + ch s - 48) (s + 1) else (v, s)
def mNum (ch : Nat → Int32) (lo most : Int32) (s : Nat) (w : Bool) : Int32 × Nat × Bool := if w = true ∨ ¬ (48 + (if 0 < lo then 1 else 0) ≤ ch s ∧ ch s ≤ 57) then (0, s, true) else ((numL ch most 61 (ch s - 48) (s + 1)).1, (numL ch most 61 (ch s - 48) (s + 1)).2, false)
def mNeed (ch : Nat → Int32) (c : Int32) (s : Nat) (w : Bool) : Nat × Bool := if w = true ∨ ¬ ch s = c then (s, true) else (s + 1, false)
def mOne (ch : Nat → Int32) (lo hi : Int32) (s : Nat) (w : Bool) : Nat × Bool := if w = true ∨ ¬ (lo ≤ ch s ∧ ch s ≤ hi) then (s, true) else (s + 1, false)
theorem chr_lt {p : Nat → Int32} {l s : Nat} (h : 48 ≤ chr p l s) : s < l := by
  by_cases q : s < l
  · exact q
  · unfold chr at h
    rw [if_neg q] at h
    exact absurd h (by decide)
