/-! what spin, spinAll, pour do to what is read -/
theorem sm_spin {a : rw} {r n : Nat} (x : Int32) (hr : r < n) : sm (aP (upd a (9 + r) x)) n = sm (aP a) n - aP a r + x := by
  have e : ∀ k, aP (upd a (9 + r) x) k = aP a k + ind r (x - aP a r) k := fun k => by
    show upd a (9 + r) x (9 + k) = a (9 + k) + (if k = r then x - a (9 + r) else 0)
    unfold upd
    by_cases h : k = r
    · subst h
      rw [if_pos rfl, if_pos rfl]
      grind
    · rw [if_neg (by omega), if_neg h, Int32.add_zero]
  rw [sm_congr n (fun k _ => e k), sm_pl, sm_ind, if_pos hr]
  grind
theorem vel_spin {a : rw} {r : Nat} {v : Int32} (hr : r < 12) (hv : -1500 ≤ v ∧ v ≤ 1500) : vel (aP (upd a (9 + r) (v * nI (2 * r + 1)))) r = v := i32_eq (vel_set hr (v1500 hv) (if_pos rfl))
theorem mom_spin {a : rw} {r : Nat} (x : Int32) : aP (upd a (9 + r) x) r = x := if_pos rfl
theorem rN_up {a b : rw} (h : b 0 = a 0) : rN b = rN a := by unfold rN; rw [h]
theorem rK_up {a b : rw} (h : b 33 = a 33) : rK b = rK a := by unfold rK; rw [h]
def spA (a : rw) (x y : Int32) : rw := rg 9 12 (fun j => if j < rN a then gvl x y (rN a) j else aP a j) a
theorem spA_out (a : rw) (x y : Int32) {k : Nat} (h : k < 9 ∨ 21 ≤ k) : spA a x y k = a k := if_neg (by omega)
theorem spA_P (a : rw) (x y : Int32) {r : Nat} (hr : r < rN a) (hn : rN a ≤ 12) : aP (spA a x y) r = gvl x y (rN a) r := by
  show (if 9 ≤ 9 + r ∧ 9 + r < 9 + 12 then _ else _) = _
  rw [if_pos (by omega), show 9 + r - 9 = r by omega, if_pos hr]
theorem spA_vel (a : rw) {x y : Int32} (hx : -1500 ≤ x ∧ x ≤ 1500) (hy : -1500 ≤ y ∧ y ≤ 1500) (h2 : 2 ≤ rN a) (hn : rN a ≤ 12) {r : Nat} (hr : r < rN a) : vel (aP (spA a x y)) r = x + (y - x) * nI r / nI (rN a - 1) := i32_eq (vel_set (by omega) (gvl_v hx hy h2 hn hr) (spA_P a x y hr hn))
theorem spA_0 (a : rw) {x y : Int32} (hx : -1500 ≤ x ∧ x ≤ 1500) (hy : -1500 ≤ y ∧ y ≤ 1500) (h2 : 2 ≤ rN a) (hn : rN a ≤ 12) : vel (aP (spA a x y)) 0 = x := by
  rw [spA_vel a hx hy h2 hn (by omega), show (y - x) * nI 0 = 0 from Int32.mul_zero]
  have : (0 : Int32) / nI (rN a - 1) = 0 := i32_eq (by rw [Int32.toInt_div]; simp)
  rw [this, Int32.add_zero]
theorem spA_n (a : rw) {x y : Int32} (hx : -1500 ≤ x ∧ x ≤ 1500) (hy : -1500 ≤ y ∧ y ≤ 1500) (h2 : 2 ≤ rN a) (hn : rN a ≤ 12) : vel (aP (spA a x y)) (rN a - 1) = y := by
  rw [spA_vel a hx hy h2 hn (by omega)]
  have b1 := v1500 hx
  have b2 := v1500 hy
  have ew := nI_toInt (n := rN a - 1) (by omega)
  have e1 : (y - x).toInt = y.toInt - x.toInt := by rw [Int32.toInt_sub, Int.bmod_eq_of_le (by omega) (by omega)]
  have hm : -40000 ≤ (y.toInt - x.toInt) * ((rN a - 1 : Nat) : Int) ∧ (y.toInt - x.toInt) * ((rN a - 1 : Nat) : Int) ≤ 40000 := by
    have h11 : ((rN a - 1 : Nat) : Int) ≤ 11 := by omega
    have h0 : (0 : Int) ≤ ((rN a - 1 : Nat) : Int) := by omega
    rcases Int.le_total 0 (y.toInt - x.toInt) with q | q
    · have g1 := Int.mul_le_mul (show y.toInt - x.toInt ≤ 3000 by omega) h11 h0 (by omega)
      have g2 := Int.mul_nonneg q h0
      omega
    · have g1 := Int.mul_le_mul (show -(y.toInt - x.toInt) ≤ 3000 by omega) h11 h0 (by omega)
      have g2 := Int.mul_nonneg (show 0 ≤ -(y.toInt - x.toInt) by omega) h0
      rw [Int.neg_mul] at g1 g2
      omega
  have e2 : ((y - x) * nI (rN a - 1)).toInt = (y.toInt - x.toInt) * ((rN a - 1 : Nat) : Int) := by
    rw [Int32.toInt_mul, e1, ew, Int.bmod_eq_of_le (by omega) (by omega)]
  have e3 : ((y - x) * nI (rN a - 1) / nI (rN a - 1)).toInt = y.toInt - x.toInt := by
    rw [Int32.toInt_div_of_ne_right _ _ (fun e => by rw [e] at ew; have : (-1 : Int32).toInt = -1 := by decide
                                                     omega), e2, ew, Int.mul_tdiv_cancel _ (by omega)]
  apply i32_eq
  rw [Int32.toInt_add, e3, Int.bmod_eq_of_le (by omega) (by omega)]
  omega
/-- what was poured is what there is -/
def PI (f : Nat → Int32) (a : rw) : Prop := ∀ c, c < 3 → f c = allA (aD a c) (rN a)
theorem PI.up {f : Nat → Int32} {a b : rw} (h : PI f a) (h0 : b 0 = a 0) (hn : rN a ≤ 12) (he : ∀ k, 658 ≤ k → b k = a k) : PI f b := fun c hc => by
  rw [h c hc, rN_up h0]
  exact (allA_congr (fun i hi => he _ (by omega)) hn).symm
theorem PI.it {f : Nat → Int32} {a : rw} (h : PI f a) (hF : Full a) {k : Nat} (hk : k ≤ 1000) : PI f (itF k a) := fun c hc => by
  obtain ⟨t, ht, h1, hI, _⟩ := hF
  rw [h c hc, it_N, it_allA hI hc k (by omega)]
def poA (a : rw) (c L r s : Nat) (m : Int32) : rw := upd a (dix c L r (cel a r (nI s))) (a (dix c L r (cel a r (nI s))) + m)
theorem poA_lo (a : rw) (c L r s : Nat) (m : Int32) {k : Nat} (h : k < 658) : poA a c L r s m k = a k := if_neg (by unfold dix; omega)
theorem poA_cel (a : rw) (c L r s : Nat) (m : Int32) {r' : Nat} (h : r' < 12) (x : Int32) : cel (poA a c L r s m) r' x = cel a r' x := by
  unfold cel
  rw [show aA (poA a c L r s m) r' = aA a r' from poA_lo a c L r s m (by omega)]
theorem poA_at (a : rw) {c L r s : Nat} (m : Int32) (hc : c < 3) (hL : L < 2) (hr : r < 12) : aD (poA a c L r s m) c (rwi L r + cel (poA a c L r s m) r (nI s)) = aD a c (rwi L r + cel a r (nI s)) + m := by
  rw [poA_cel a c L r s m hr]
  have hj := (cel_eq a r (nI s)).1
  have hi : rwi L r + cel a r (nI s) < 576 := by unfold rwi; omega
  have e := aD_updD (a := a) (c := c) (L := L) (r := r) (j := cel a r (nI s)) (a (dix c L r (cel a r (nI s))) + m) hi c hc (rwi L r + cel a r (nI s)) hi
  rw [if_pos ⟨rfl, rfl⟩] at e
  refine e.trans ?_
  exact congrArg (fun q => q + m) (congrArg a (by unfold dix; omega))
theorem PI.pour {f : Nat → Int32} {a : rw} (h : PI f a) {c L r s : Nat} (m : Int32) (hc : c < 3) (hL : L < 2) (hr : r < rN a) (hn : rN a ≤ 12) : PI (upd f c (f c + m)) (poA a c L r s m) := fun c' hc' => by
  have hj := (cel_eq a r (nI s)).1
  rw [rN_up (poA_lo a c L r s m (by omega))]
  unfold upd
  by_cases e : c' = c
  · subst e
    rw [if_pos rfl, h c' hc']
    exact (allA_pour hL hr hn hj m).symm
  · rw [if_neg e, h c' hc']
    exact (allA_other hL (by omega) hn hj _ c' hc' e).symm
