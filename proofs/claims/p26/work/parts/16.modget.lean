/-! the reference's row of numbers, read as a tank -/
def aS (a : Nat → Int32) (j : Nat) : Int32 := a (2 + j)
def aP (a : Nat → Int32) (r : Nat) : Int32 := a (9 + r)
def aA (a : Nat → Int32) (r : Nat) : Int32 := a (21 + r)
def aD (a : Nat → Int32) (c i : Nat) : Int32 := a (658 + 576 * c + i)
def allA (f : Nat → Int32) (n : Nat) : Int32 := sm (rowS f 0) n + sm (rowS f 1) n
theorem wt_pos {r : Nat} (h : r < 100) : 0 < (nI (2 * r + 1)).toInt := by rw [nI_toInt (by omega)]; omega
theorem clP_le {x : Int32} : (if x < -500 then -500 else if 500 < x then (500 : Int32) else x) = clP x := rfl
theorem absL_eq (x : Int64) : (if x < 0 then -x else x) = absL x := by
  unfold absL
  by_cases h : x < 0
  · rw [if_pos h, if_neg (by rw [Int64.not_lt]; exact Int64.le_of_lt h)]
  · rw [if_neg h]
    by_cases h2 : 0 < x
    · rw [if_pos h2]
    · rw [if_neg h2]
      have : x = 0 := Int64.le_antisymm (Int64.not_lt.mp h2) (Int64.not_lt.mp h)
      rw [this]
      decide
theorem absI_ge {x : Int32} (h : 0 ≤ x) : absI x = x := if_pos h
theorem absI_lt {x : Int32} (h : ¬ 0 ≤ x) : absI x = -x := by unfold absI; rw [if_neg h, Int32.zero_sub]
theorem cells48 (x : Int64) : 48 * x = 2 * x * 24 := by
  rw [Int64.mul_comm 2 x, Int64.mul_assoc, Int64.mul_comm 48 x]
  rfl
theorem sm_one (f : Nat → Int32) (r : Nat) : sm (fun k => f (r + k)) (r + 1 - r) = f r := by
  rw [show r + 1 - r = 1 by omega, sm, sm, Int32.zero_add, Nat.add_zero]
theorem sm_z (f : Nat → Int32) {n : Nat} (h : 1 ≤ n) : sm (fun k => f (0 + k)) (n - 1 + 1 - 0) = sm f n := by
  rw [show n - 1 + 1 - 0 = n by omega]
  exact sm_congr n (fun j _ => by rw [Nat.zero_add])
