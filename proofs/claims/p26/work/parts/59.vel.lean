/-! velocities as whole numbers, and their bound -/
theorem fdv_int {x y : Int32} (hy : 0 < y.toInt) : (fdv x y).toInt = x.toInt / y.toInt := by
  have hx := x.le_toInt
  have hx2 := x.toInt_lt
  have hdiv : (x / y).toInt = x.toInt.tdiv y.toInt := Int32.toInt_div_of_ne_right x y (fun e => by rw [e] at hy; exact absurd hy (by decide))
  unfold fdv
  by_cases hneg : x < 0
  · have hn : x.toInt < 0 := by rw [Int32.lt_iff_toInt_lt, Int32.toInt_zero] at hneg; exact hneg
    have e1 : x.toInt.tdiv y.toInt = -((-x.toInt) / y.toInt) := by
      have := Int.neg_tdiv (-x.toInt) y.toInt
      rw [Int.neg_neg] at this
      rw [this, Int.tdiv_eq_ediv_of_nonneg (by omega)]
    rw [e1] at hdiv
    generalize hyy : y.toInt = w at hy hdiv
    generalize hp : -x.toInt = p at hdiv
    have hp0 : 0 < p := by omega
    have d1 := Int.mul_ediv_add_emod p w
    have d2 := Int.emod_nonneg p (show w ≠ 0 by omega)
    have d3 := Int.emod_lt_of_pos p hy
    generalize hq : p / w = q at d1 hdiv
    generalize hr : p % w = r at d1 d2 d3
    have hq0 : 0 ≤ q := by rw [← hq]; exact Int.ediv_nonneg (by omega) (by omega)
    have hqw : 0 ≤ w * q := Int.mul_nonneg (by omega) hq0
    have hqle : q ≤ w * q := by
      have := Int.mul_le_mul_of_nonneg_right (show 1 ≤ w by omega) hq0
      rw [Int.one_mul] at this
      exact this
    have ex : x.toInt = -(w * q) - r := by omega
    have em : (x / y * y).toInt = -(w * q) := by
      rw [Int32.toInt_mul, hdiv, hyy, Int.neg_mul, Int.mul_comm q w, Int.bmod_eq_of_le (by omega) (by omega)]
    have hexact : (x / y * y = x) ↔ r = 0 := by
      rw [← Int32.toInt_inj, em]
      omega
    by_cases h0 : r = 0
    · rw [if_neg (fun z => z.2 (hexact.mpr h0)), hdiv, ex, h0]
      rw [show -(w * q) - 0 = w * (-q) by rw [Int.mul_neg]; omega, Int.mul_ediv_cancel_left _ (by omega)]
    · rw [if_pos ⟨(xor_neg (by omega)).mpr hneg, fun z => h0 (hexact.mp z)⟩, Int32.toInt_sub, hdiv, show (1 : Int32).toInt = 1 by decide, Int.bmod_eq_of_le (by omega) (by omega), ex]
      have : -(w * q) - r = (w - r) + w * (-q - 1) := by
        rw [Int.mul_sub, Int.mul_neg, Int.mul_one]
        omega
      rw [this, Int.add_mul_ediv_left _ _ (by omega), Int.ediv_eq_zero_of_lt (by omega) (by omega)]
      omega
  · have hn : 0 ≤ x.toInt := by rw [Int32.lt_iff_toInt_lt, Int32.toInt_zero] at hneg; omega
    rw [if_neg (fun z => hneg ((xor_neg hy).mp z.1)), hdiv, Int.tdiv_eq_ediv_of_nonneg hn]
theorem vel_int (P : Nat → Int32) {r : Nat} (hr : r < 12) : (vel P r).toInt = (P r).toInt / (2 * r + 1 : Nat) := by
  unfold vel
  have e := nI_toInt (n := 2 * r + 1) (by omega)
  rw [fdv_int (by rw [e]; omega), e]
