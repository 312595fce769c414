theorem v1500 {v : Int32} (h : -1500 ≤ v ∧ v ≤ 1500) : -1500 ≤ v.toInt ∧ v.toInt ≤ 1500 := by
  have h1 := Int32.le_iff_toInt_le.mp h.1
  have h2 := Int32.le_iff_toInt_le.mp h.2
  rw [show (-1500 : Int32).toInt = -1500 by decide] at h1
  rw [show (1500 : Int32).toInt = 1500 by decide] at h2
  exact ⟨h1, h2⟩
theorem Full_spin {a : Nat → Int32} (h : Full a) {r : Nat} (hr : r < 12) {v : Int32} (hv : -1500 ≤ v ∧ v ≤ 1500) : Full (upd a (9 + r) (v * nI (2 * r + 1))) := by
  refine Full_mom h (fun k hk => if_neg (by omega)) (fun t hP => ?_)
  refine VB_some (by omega) hP (fun q hq => ?_)
  by_cases e : q = r
  · right
    have ev := vel_set (P := aP (upd a (9 + r) (v * nI (2 * r + 1)))) (r := q) hq (v1500 hv) (by rw [e]; exact if_pos rfl)
    rw [ev]
    exact v1500 hv
  · left
    exact if_neg (by omega)
theorem gvl_v {x y : Int32} (hx : -1500 ≤ x ∧ x ≤ 1500) (hy : -1500 ≤ y ∧ y ≤ 1500) {n r : Nat} (hn2 : 2 ≤ n) (hn : n ≤ 12) (hr : r < n) : -1500 ≤ (x + (y - x) * nI r / nI (n - 1)).toInt ∧ (x + (y - x) * nI r / nI (n - 1)).toInt ≤ 1500 := by
  have hx := v1500 hx
  have hy := v1500 hy
  have er := nI_toInt (n := r) (by omega)
  have en := nI_toInt (n := n - 1) (by omega)
  have e1 : (y - x).toInt = y.toInt - x.toInt := by rw [Int32.toInt_sub, Int.bmod_eq_of_le (by omega) (by omega)]
  generalize hd : y.toInt - x.toInt = d at e1
  have hb : (0 ≤ d → 0 ≤ d * r ∧ d * r ≤ d * (n - 1 : Nat)) ∧ (d ≤ 0 → d * (n - 1 : Nat) ≤ d * r ∧ d * r ≤ 0) := by
    constructor
    · intro q
      exact ⟨Int.mul_nonneg q (by omega), Int.mul_le_mul_of_nonneg_left (by omega) q⟩
    · intro q
      have g1 := Int.mul_le_mul_of_nonneg_left (show (r : Int) ≤ (n - 1 : Nat) by omega) (show 0 ≤ -d by omega)
      have g2 := Int.mul_nonneg (show 0 ≤ -d by omega) (show (0 : Int) ≤ r by omega)
      rw [Int.neg_mul, Int.neg_mul] at g1
      rw [Int.neg_mul] at g2
      omega
  have hbig : -33000 ≤ d * r ∧ d * r ≤ 33000 := by
    have g1 := Int.mul_le_mul_of_nonneg_right (show d ≤ 3000 by omega) (show (0 : Int) ≤ r by omega)
    have g2 := Int.mul_le_mul_of_nonneg_right (show -3000 ≤ d by omega) (show (0 : Int) ≤ r by omega)
    omega
  have e2 : ((y - x) * nI r).toInt = d * r := by rw [Int32.toInt_mul, e1, er, Int.bmod_eq_of_le (by omega) (by omega)]
  have hm : (0 : Int) < (n - 1 : Nat) := by omega
  generalize hp : d * r = p at hb hbig e2
  have hq : (0 ≤ d → 0 ≤ p.tdiv (n - 1 : Nat) ∧ p.tdiv (n - 1 : Nat) ≤ d) ∧ (d ≤ 0 → d ≤ p.tdiv (n - 1 : Nat) ∧ p.tdiv (n - 1 : Nat) ≤ 0) := by
    constructor
    · intro q
      have h1 := hb.1 q
      rw [Int.tdiv_eq_ediv_of_nonneg h1.1]
      refine ⟨Int.ediv_nonneg h1.1 (by omega), ?_⟩
      have : p / (n - 1 : Nat) < d + 1 := Int.ediv_lt_of_lt_mul hm (by rw [Int.add_mul, Int.one_mul]; omega)
      omega
    · intro q
      have h1 := hb.2 q
      have e := Int.neg_tdiv (-p) (n - 1 : Nat)
      rw [Int.neg_neg] at e
      rw [e, Int.tdiv_eq_ediv_of_nonneg (by omega)]
      have a1 := Int.ediv_nonneg (show 0 ≤ -p by omega) (show (0 : Int) ≤ (n - 1 : Nat) by omega)
      have : (-p) / (n - 1 : Nat) < -d + 1 := Int.ediv_lt_of_lt_mul hm (by rw [Int.add_mul, Int.one_mul, Int.neg_mul]; omega)
      omega
  have e3 : ((y - x) * nI r / nI (n - 1)).toInt = p.tdiv (n - 1 : Nat) := by
    rw [Int32.toInt_div, e2, en]
    rcases Int.le_total 0 d with q | q
    · have := hq.1 q; rw [Int.bmod_eq_of_le (by omega) (by omega)]
    · have := hq.2 q; rw [Int.bmod_eq_of_le (by omega) (by omega)]
  rw [Int32.toInt_add, e3]
  rcases Int.le_total 0 d with q | q
  · have := hq.1 q
    rw [Int.bmod_eq_of_le (by omega) (by omega)]
    omega
  · have := hq.2 q
    rw [Int.bmod_eq_of_le (by omega) (by omega)]
    omega
theorem Full_spinAll {a : Nat → Int32} (h : Full a) {x y : Int32} (hx : -1500 ≤ x ∧ x ≤ 1500) (hy : -1500 ≤ y ∧ y ≤ 1500) : Full (rg 9 12 (fun j => if j < rN a then gvl x y (rN a) j else aP a j) a) := by
  obtain ⟨hB, _⟩ := h.choose_spec.2.2.1
  refine Full_mom h (fun k hk => rg_out (by omega)) (fun t hP => ?_)
  refine VB_some (by omega) hP (fun q hq => ?_)
  have e0 : aP (rg 9 12 (fun j => if j < rN a then gvl x y (rN a) j else aP a j) a) q = (if q < rN a then gvl x y (rN a) q else aP a q) := rg_in hq
  by_cases e : q < rN a
  · right
    rw [if_pos e] at e0
    have gv := gvl_v hx hy hB.2.1 hB.2.2.1 e
    rw [vel_set hq gv e0]
    exact gv
  · left
    rw [if_neg e] at e0
    exact e0
