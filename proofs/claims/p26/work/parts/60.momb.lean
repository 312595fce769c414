/-! what moves momenta, as whole numbers -/
theorem scl {S x : Int} (h : 0 ≤ S ∧ S ≤ 100) : (0 ≤ x → 0 ≤ S * x ∧ S * x ≤ 100 * x) ∧ (x ≤ 0 → 100 * x ≤ S * x ∧ S * x ≤ 0) := by
  constructor
  · intro hx
    exact ⟨Int.mul_nonneg h.1 hx, Int.mul_le_mul_of_nonneg_right h.2 hx⟩
  · intro hx
    have h1 := Int.mul_nonneg h.1 (show 0 ≤ -x by omega)
    have h2 := Int.mul_le_mul_of_nonneg_right h.2 (show 0 ≤ -x by omega)
    rw [Int.mul_neg] at h1 h2
    rw [Int.mul_neg] at h2
    omega
theorem td_100 (y : Int) : (0 ≤ y → 0 ≤ y.tdiv 100 ∧ 100 * y.tdiv 100 ≤ y ∧ y ≤ 100 * y.tdiv 100 + 99) ∧ (y ≤ 0 → y.tdiv 100 ≤ 0 ∧ y ≤ 100 * y.tdiv 100 ∧ 100 * y.tdiv 100 ≤ y + 99) := by
  constructor
  · intro h
    rw [Int.tdiv_eq_ediv_of_nonneg h]
    omega
  · intro h
    have := Int.neg_tdiv (-y) 100
    rw [Int.neg_neg] at this
    rw [this, Int.tdiv_eq_ediv_of_nonneg (by omega)]
    omega
theorem td_1000 (y : Int) : (0 ≤ y → 0 ≤ y.tdiv 1000 ∧ 1000 * y.tdiv 1000 ≤ y) ∧ (y ≤ 0 → y.tdiv 1000 ≤ 0 ∧ y ≤ 1000 * y.tdiv 1000) := by
  constructor
  · intro h
    rw [Int.tdiv_eq_ediv_of_nonneg h]
    omega
  · intro h
    have := Int.neg_tdiv (-y) 1000
    rw [Int.neg_neg] at this
    rw [this, Int.tdiv_eq_ediv_of_nonneg (by omega)]
    omega
/-- the share of a difference: between none and all of it, and near S hundredths of it -/
theorem shr_int {S a b : Int32} (hS : 0 ≤ S.toInt ∧ S.toInt ≤ 100) (ha : -500000 ≤ a.toInt ∧ a.toInt ≤ 500000) (hb : -500000 ≤ b.toInt ∧ b.toInt ≤ 500000) : (S * (a - b) / 100).toInt = (S.toInt * (a.toInt - b.toInt)).tdiv 100 := by
  have e1 : (a - b).toInt = a.toInt - b.toInt := by rw [Int32.toInt_sub, Int.bmod_eq_of_le (by omega) (by omega)]
  have h := scl (x := a.toInt - b.toInt) hS
  have hy : -100000000 ≤ S.toInt * (a.toInt - b.toInt) ∧ S.toInt * (a.toInt - b.toInt) ≤ 100000000 := by
    rcases Int.le_total 0 (a.toInt - b.toInt) with q | q
    · have := h.1 q; omega
    · have := h.2 q; omega
  have e2 : (S * (a - b)).toInt = S.toInt * (a.toInt - b.toInt) := by
    rw [Int32.toInt_mul, e1, Int.bmod_eq_of_le (by omega) (by omega)]
  rw [Int32.toInt_div, e2, show (100 : Int32).toInt = 100 by decide]
  have := td_100 (S.toInt * (a.toInt - b.toInt))
  rcases Int.le_total 0 (S.toInt * (a.toInt - b.toInt)) with q | q
  · have := this.1 q
    rw [Int.bmod_eq_of_le (by omega) (by omega)]
  · have := this.2 q
    rw [Int.bmod_eq_of_le (by omega) (by omega)]
theorem fri_int {S a b : Int32} {w : Nat} (hw : 1 ≤ w ∧ w ≤ 23) (hS : 0 ≤ S.toInt ∧ S.toInt ≤ 100) (ha : -1500 ≤ a.toInt ∧ a.toInt ≤ 1500) (hb : -500000 ≤ b.toInt ∧ b.toInt ≤ 500000) : (0 ≤ a.toInt - b.toInt → 0 ≤ (S * (a - b) * nI w / 1000).toInt ∧ 10 * (S * (a - b) * nI w / 1000).toInt ≤ (a.toInt - b.toInt) * w) ∧ (a.toInt - b.toInt ≤ 0 → (a.toInt - b.toInt) * w ≤ 10 * (S * (a - b) * nI w / 1000).toInt ∧ (S * (a - b) * nI w / 1000).toInt ≤ 0) := by
  have e1 : (a - b).toInt = a.toInt - b.toInt := by rw [Int32.toInt_sub, Int.bmod_eq_of_le (by omega) (by omega)]
  have h := scl (x := a.toInt - b.toInt) hS
  generalize hx : a.toInt - b.toInt = x at e1 h
  have hxb : -501500 ≤ x ∧ x ≤ 501500 := by omega
  have e2 : (S * (a - b)).toInt = S.toInt * x := by
    have hy : -50150000 ≤ S.toInt * x ∧ S.toInt * x ≤ 50150000 := by
      rcases Int.le_total 0 x with q | q
      · have := h.1 q; omega
      · have := h.2 q; omega
    rw [Int32.toInt_mul, e1, Int.bmod_eq_of_le (by omega) (by omega)]
  generalize hp : S.toInt * x = p at e2 h
  have ew := nI_toInt (n := w) (by omega)
  have hm : (0 ≤ x → 0 ≤ p * w ∧ p * w ≤ 100 * (x * w)) ∧ (x ≤ 0 → 100 * (x * w) ≤ p * w ∧ p * w ≤ 0) := by
    constructor
    · intro q
      have h1 := h.1 q
      have := Int.mul_le_mul_of_nonneg_right h1.2 (show (0 : Int) ≤ w by omega)
      rw [Int.mul_assoc] at this
      exact ⟨Int.mul_nonneg h1.1 (by omega), this⟩
    · intro q
      have h1 := h.2 q
      have g1 := Int.mul_le_mul_of_nonneg_right h1.1 (show (0 : Int) ≤ w by omega)
      have g2 := Int.mul_le_mul_of_nonneg_right h1.2 (show (0 : Int) ≤ w by omega)
      rw [Int.mul_assoc] at g1
      rw [Int.zero_mul] at g2
      exact ⟨g1, g2⟩
  have hxw : (0 ≤ x → 0 ≤ x * w ∧ x * w ≤ 501500 * 23) ∧ (x ≤ 0 → -(501500 * 23) ≤ x * w ∧ x * w ≤ 0) := by
    constructor
    · intro q
      have g1 := Int.mul_le_mul hxb.2 (show (w : Int) ≤ 23 by omega) (by omega) (by omega)
      exact ⟨Int.mul_nonneg q (by omega), g1⟩
    · intro q
      have g1 := Int.mul_le_mul (show -x ≤ 501500 by omega) (show (w : Int) ≤ 23 by omega) (by omega) (by omega)
      have g2 := Int.mul_nonneg (show 0 ≤ -x by omega) (show (0 : Int) ≤ w by omega)
      rw [Int.neg_mul] at g1 g2
      omega
  generalize hz : x * w = z at hm hxw
  generalize hk : p * w = k at hm
  have hkb : -1200000000 ≤ k ∧ k ≤ 1200000000 := by
    rcases Int.le_total 0 x with q | q
    · have := hm.1 q; have := hxw.1 q; omega
    · have := hm.2 q; have := hxw.2 q; omega
  have e3 : (S * (a - b) * nI w).toInt = k := by
    rw [Int32.toInt_mul, e2, ew, hk, Int.bmod_eq_of_le (by omega) (by omega)]
  have td := td_1000 k
  have e4 : (S * (a - b) * nI w / 1000).toInt = k.tdiv 1000 := by
    rw [Int32.toInt_div, e3, show (1000 : Int32).toInt = 1000 by decide]
    rcases Int.le_total 0 k with q | q
    · have := td.1 q
      rw [Int.bmod_eq_of_le (by omega) (by omega)]
    · have := td.2 q
      rw [Int.bmod_eq_of_le (by omega) (by omega)]
  rw [e4]
  constructor
  · intro q
    have := hm.1 q
    have := td.1 (by omega)
    omega
  · intro q
    have := hm.2 q
    have := td.2 (by omega)
    omega
