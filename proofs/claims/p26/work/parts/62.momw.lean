theorem mid_bound {w v P i o l f B z : Int} (hw : 5 ≤ w) (hP : w * v ≤ P ∧ P ≤ w * v + w - 1) (hv : -B ≤ v ∧ v ≤ B) (hi : -(v + B) ≤ i ∧ i ≤ B - v) (ho : -(v + B) ≤ -o ∧ -o ≤ B - v) (hl : -(v + B) ≤ l ∧ l ≤ B - v) (hz : -(v + B) ≤ z ∧ z ≤ B - v) (hf : (0 ≤ z → 0 ≤ f ∧ 10 * f ≤ z * w) ∧ (z ≤ 0 → z * w ≤ 10 * f ∧ f ≤ 0)) : -B ≤ (P + i - o + l + f) / w ∧ (P + i - o + l + f) / w ≤ B := by
  have d1 := Int.mul_le_mul_of_nonneg_right hw (show 0 ≤ B - v by omega)
  have d2 := Int.mul_le_mul_of_nonneg_right hw (show 0 ≤ v + B by omega)
  have z1 := Int.mul_le_mul_of_nonneg_right hz.2 (show 0 ≤ w by omega)
  have z2 := Int.mul_le_mul_of_nonneg_right hz.1 (show 0 ≤ w by omega)
  rw [Int.mul_sub] at d1
  rw [Int.mul_add] at d2
  rw [Int.mul_sub] at d1
  rw [Int.mul_add] at d2
  rw [Int.sub_mul, Int.mul_comm B w, Int.mul_comm v w] at z1
  rw [Int.neg_mul, Int.add_mul, Int.mul_comm B w, Int.mul_comm v w] at z2
  generalize w * v = m at hP d1 d2 z1 z2
  generalize hM : w * B = M at d1 d2 z1 z2
  have f1 : 10 * f ≤ M - m ∧ -(m + M) ≤ 10 * f := by
    rcases Int.le_total 0 z with q | q
    · have := hf.1 q; omega
    · have := hf.2 q; omega
  constructor
  · refine Int.le_ediv_of_mul_le (by omega) ?_
    rw [Int.neg_mul, Int.mul_comm B w, hM]
    omega
  · have : (P + i - o + l + f) / w < B + 1 := by
      refine Int.ediv_lt_of_lt_mul (by omega) ?_
      rw [Int.add_mul, Int.one_mul, Int.mul_comm B w, hM]
      omega
    omega
theorem btw_b {q x B v : Int} (h : btw q x) (h1 : -(v + B) ≤ x ∧ x ≤ B - v) (hv : -B ≤ v ∧ v ≤ B) : -(v + B) ≤ q ∧ q ≤ B - v := by
  rcases Int.le_total 0 x with c | c
  · have := h.1 c; omega
  · have := h.2 c; omega
theorem btw_n {q x B v : Int} (h : btw q x) (h1 : -(v + B) ≤ -x ∧ -x ≤ B - v) (hv : -B ≤ v ∧ v ≤ B) : -(v + B) ≤ -q ∧ -q ≤ B - v := by
  rcases Int.le_total 0 x with c | c
  · have := h.1 c; omega
  · have := h.2 c; omega
