/-! numbers as the law writes them -/
theorem rem_int {x y : Int32} (hy : 0 < y.toInt) : (x - x / y * y).toInt = x.toInt.tmod y.toInt := by
  have hx := x.le_toInt
  have hx2 := x.toInt_lt
  have hdiv : (x / y).toInt = x.toInt.tdiv y.toInt := Int32.toInt_div_of_ne_right x y (fun e => by rw [e] at hy; exact absurd hy (by decide))
  have hm := Int.tmod_add_tdiv_mul x.toInt y.toInt
  have h1 := Int.tmod_lt_of_pos x.toInt hy
  have h2 : -y.toInt < x.toInt.tmod y.toInt := Int.lt_tmod_of_pos x.toInt hy
  have h3 : (0 ≤ x.toInt → 0 ≤ x.toInt.tmod y.toInt ∧ 0 ≤ x.toInt.tdiv y.toInt * y.toInt) := fun h => ⟨Int.tmod_nonneg _ h, Int.mul_nonneg (Int.tdiv_nonneg h (by omega)) (by omega)⟩
  have h4 : (x.toInt ≤ 0 → x.toInt.tmod y.toInt ≤ 0 ∧ x.toInt.tdiv y.toInt * y.toInt ≤ 0) := fun h => by
    have e1 := Int.neg_tdiv (-x.toInt) y.toInt
    have e2 := Int.neg_tmod (-x.toInt) y.toInt
    rw [Int.neg_neg] at e1 e2
    have g1 := Int.tmod_nonneg y.toInt (show 0 ≤ -x.toInt by omega)
    have g2 := Int.mul_nonneg (Int.tdiv_nonneg (show 0 ≤ -x.toInt by omega) (show 0 ≤ y.toInt by omega)) (show 0 ≤ y.toInt by omega)
    rw [e1, e2, Int.neg_mul]
    omega
  have hyb := y.toInt_lt
  have em : (x / y * y).toInt = x.toInt.tdiv y.toInt * y.toInt := by
    rw [Int32.toInt_mul, hdiv]
    generalize x.toInt.tdiv y.toInt * y.toInt = q at hm h3 h4
    rcases Int.le_total 0 x.toInt with h | h
    · have := h3 h
      rw [Int.bmod_eq_of_le (by omega) (by omega)]
    · have := h4 h
      rw [Int.bmod_eq_of_le (by omega) (by omega)]
  rw [Int32.toInt_sub, em, show x.toInt - x.toInt.tdiv y.toInt * y.toInt = x.toInt.tmod y.toInt by omega, Int.bmod_eq_of_le (by omega) (by omega)]
theorem i32_eq {x y : Int32} (h : x.toInt = y.toInt) : x = y := Int32.toInt_inj.mp h
theorem nI_nn {x : Int32} (h : 0 ≤ x.toInt) : ∃ k : Nat, k < 2 ^ 31 ∧ x = nI k ∧ (k : Int) = x.toInt := by
  have := x.toInt_lt
  exact ⟨x.toInt.toNat, by omega, sw_of (by omega) (by omega), by omega⟩
theorem rem_nI {i m : Nat} (hi : i < 2 ^ 31) (hm0 : 0 < m) (hm : m < 2 ^ 31) : nI i - nI i / nI m * nI m = nI (i % m) := by
  have e1 := nI_toInt hi
  have e2 := nI_toInt hm
  apply i32_eq
  rw [rem_int (by rw [e2]; omega), e1, e2, nI_toInt (by have := Nat.mod_lt i hm0; omega), Int.tmod_eq_emod_of_nonneg (by omega)]
  rfl
theorem div_nI {i m : Nat} (hi : i < 2 ^ 31) (hm0 : 0 < m) (hm : m < 2 ^ 31) : nI i / nI m = nI (i / m) := by
  have e1 := nI_toInt hi
  have e2 := nI_toInt hm
  apply i32_eq
  rw [Int32.toInt_div_of_ne_right _ _ (fun e => by rw [e] at e2; have : (-1 : Int32).toInt = -1 := by decide
                                                   omega), e1, e2, nI_toInt (by have := Nat.div_le_self i m; omega), Int.tdiv_eq_ediv_of_nonneg (by omega)]
  rfl
theorem and_nn (v : Int32) : 0 ≤ (v &&& 2147483647).toInt := by
  have h : ¬ (v &&& 2147483647 < 0) := by
    rw [neg_msb]
    rw [Int32.toBitVec_and, BitVec.msb_and]
    have : (2147483647 : Int32).toBitVec.msb = false := by decide
    rw [this, Bool.and_false]
    decide
  rw [Int32.lt_iff_toInt_lt, Int32.toInt_zero] at h
  omega
theorem up_ex (v : Int32) {m : Nat} (hm0 : 0 < m) (hm : m < 2 ^ 31) : ∃ u, u < m ∧ upI v (nI m) = nI u := by
  obtain ⟨k, hk, e, _⟩ := nI_nn (and_nn v)
  unfold upI
  rw [e, rem_nI hk hm0 hm]
  exact ⟨_, Nat.mod_lt _ hm0, rfl⟩
/-- a rest with its sign -/
theorem rem_rng (x : Int32) {m : Nat} (hm0 : 0 < m) (hm : m < 2 ^ 31) : -(m : Int) < (x - x / nI m * nI m).toInt ∧ (x - x / nI m * nI m).toInt < m := by
  have e2 := nI_toInt hm
  rw [rem_int (by rw [e2]; omega), e2]
  exact ⟨Int.lt_tmod_of_pos _ (by omega), Int.tmod_lt_of_pos _ (by omega)⟩
/-- the law's way to a rest without a sign -/
theorem rem2 (x : Int32) {m : Nat} (hm0 : 0 < m) (hm : m < 2 ^ 30) : (x - x / nI m * nI m + nI m) - (x - x / nI m * nI m + nI m) / nI m * nI m = fmd x (nI m) := by
  have e2 := nI_toInt (n := m) (by omega)
  have hp : 0 < (nI m).toInt := by rw [e2]; omega
  obtain ⟨h1, h2⟩ := rem_rng x hm0 (show m < 2 ^ 31 by omega)
  rw [fmd_mod hp]
  generalize x - x / nI m * nI m = R at h1 h2
  have ea : (R + nI m).toInt = R.toInt + m := by
    rw [Int32.toInt_add, e2, Int.bmod_eq_of_le (by omega) (by omega)]
  apply i32_eq
  rw [rem_int hp, e2, ea]
  by_cases hR : R < 0
  · rw [if_pos hR, ea]
    rw [Int32.lt_iff_toInt_lt, Int32.toInt_zero] at hR
    rw [Int.tmod_eq_of_lt (by omega) (by omega)]
  · rw [if_neg hR]
    rw [Int32.lt_iff_toInt_lt, Int32.toInt_zero] at hR
    rw [Int.tmod_eq_emod_of_nonneg (by omega), Int.add_emod_right, Int.emod_eq_of_lt (by omega) (by omega)]
/-! what bounds a full row's velocities -/
theorem Full_vel {a : rw} (h : Full a) {r : Nat} (hr : r < 12) : -490000 ≤ (vel (aP a) r).toInt ∧ (vel (aP a) r).toInt ≤ 490000 := by
  obtain ⟨t, ht, h1, hI, hG, hV⟩ := h
  obtain ⟨v1, v2, v3⟩ := hV
  by_cases h0 : r = 0
  · subst h0; omega
  · have := v1 r (by omega) hr
    omega
theorem vel_rem {a : rw} (h : Full a) {r : Nat} (hr : r < 12) : ∃ q, q ≤ 2 * r ∧ aP a r - vel (aP a) r * nI (2 * r + 1) = nI q := by
  have hv := Full_vel h hr
  have e := vel_int (aP a) hr
  have ew := nI_toInt (n := 2 * r + 1) (by omega)
  have d1 := Int.mul_ediv_add_emod (aP a r).toInt ((2 * r + 1 : Nat) : Int)
  have d2 := Int.emod_nonneg (aP a r).toInt (show ((2 * r + 1 : Nat) : Int) ≠ 0 by omega)
  have d3 := Int.emod_lt_of_pos (aP a r).toInt (show (0 : Int) < ((2 * r + 1 : Nat) : Int) by omega)
  rw [← e] at d1
  generalize hw : ((2 * r + 1 : Nat) : Int) = w at *
  have hwb : 1 ≤ w ∧ w ≤ 23 := by omega
  generalize hV : (vel (aP a) r).toInt = V at *
  have hm1 : -11270000 ≤ w * V ∧ w * V ≤ 11270000 := by
    rcases Int.le_total 0 V with q | q
    · have g1 := Int.mul_le_mul hwb.2 hv.2 q (by omega)
      have g2 := Int.mul_nonneg (show 0 ≤ w by omega) q
      omega
    · have g1 := Int.mul_le_mul hwb.2 (show -V ≤ 490000 by omega) (by omega) (by omega)
      have g2 := Int.mul_nonneg (show 0 ≤ w by omega) (show 0 ≤ -V by omega)
      rw [Int.mul_neg] at g1 g2
      omega
  have em : (vel (aP a) r * nI (2 * r + 1)).toInt = w * V := by
    rw [Int32.toInt_mul, hV, ew, Int.mul_comm, Int.bmod_eq_of_le (by omega) (by omega)]
  have es : (aP a r - vel (aP a) r * nI (2 * r + 1)).toInt = (aP a r).toInt % w := by
    rw [Int32.toInt_sub, em, Int.bmod_eq_of_le (by omega) (by omega)]
    omega
  obtain ⟨k, hk, e1, e2⟩ := nI_nn (by rw [es]; exact d2)
  exact ⟨k, by omega, e1⟩
