/-! the reference's forecasts -/
def settB (a : Nat → Int32) (n : Nat) (b : Int32) : Bool := decide (∀ r, r < n → (-b ≤ vel (aP a) r - aS a 4 ∧ vel (aP a) r - aS a 4 ≤ b))
def partB (a : Nat → Int32) (n c r : Nat) (s : Int32) : Bool := decide (s.toInt64 * (allA (aD a c) n).toInt64 ≤ 1000 * (ringS (aD a c) r).toInt64)
def farI (x y : Int32) : Int32 := if 1800 < fmd (x - y) 3600 then 3600 - fmd (x - y) 3600 else fmd (x - y) 3600
def nearB (a : Nat → Int32) (i j : Nat) (b : Int32) : Bool := decide (a (34 + 104 * i) / 1000 = a (34 + 104 * j) / 1000 ∧ farI (a (34 + 104 * i + 1)) (a (34 + 104 * j + 1)) ≤ b)
theorem lcmp_ge2 (x y : Int64) : 0 ≤ lg_cmp x y ↔ y ≤ x := by
  unfold lg_cmp
  by_cases h : x > y
  · rw [if_pos h]
    exact ⟨fun _ => Int64.le_of_lt h, fun _ => by decide⟩
  · rw [if_neg h]
    by_cases h2 : x = y
    · rw [if_pos h2, h2]
      exact ⟨fun _ => Int64.le_refl y, fun _ => by decide⟩
    · rw [if_neg h2]
      exact ⟨fun q => absurd q (by decide), fun q => absurd (Int64.le_antisymm (Int64.not_lt.mp h) q) h2⟩
