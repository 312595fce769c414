/-! leastEkman of the reference -/
def ekmB (a : Nat → Int32) (n c T : Nat) (p : Int32) (e : Nat) : Bool := decide (meanP (aD (itF T (upd a 7 (nI e))) c) n (allA (aD (itF T (upd a 7 (nI e))) c) n) ≤ p.toInt64)
theorem lcmp_gt2 (x y : Int64) : 0 < lg_cmp x y ↔ ¬ x ≤ y := by
  unfold lg_cmp
  by_cases h : x > y
  · rw [if_pos h]
    exact ⟨fun _ => Int64.not_le.mpr h, fun _ => by decide⟩
  · rw [if_neg h]
    by_cases h2 : x = y
    · rw [if_pos h2, h2]
      exact ⟨fun q => absurd q (by decide), fun q => absurd (Int64.le_refl y) q⟩
    · rw [if_neg h2]
      exact ⟨fun q => absurd q (by decide), fun q => absurd (Int64.not_lt.mp h) q⟩
