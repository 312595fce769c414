/-! the slices of a ticked row -/
theorem mom_congr {S S' P P' : Nat → Int32} (hS : ∀ j, j < 7 → S j = S' j) (hP : ∀ r, r < 12 → P r = P' r) {n : Nat} (hn : n ≤ 12) {j : Nat} (hj : j < 12) : mom S P n j = mom S' P' n j := by
  have hv : ∀ r, r < 12 → vel P r = vel P' r := fun r hr => vel_congr (hP r hr)
  have hm : ∀ r, r + 1 < 12 → mv S P r = mv S' P' r := fun r hr => by
    unfold mv
    rw [hS 0 (by omega), hv r (by omega), hv (r + 1) hr]
  unfold mom
  by_cases h : j < n
  · rw [if_pos h, if_pos h, hP j hj]
    congr 1
    · congr 1
      · congr 1
        · congr 1
          unfold inn
          by_cases e : j = 0
          · rw [if_pos e, if_pos e]
          · rw [if_neg e, if_neg e]
            exact hm (j - 1) (by omega)
        · unfold out
          by_cases e : j + 1 < n
          · rw [if_pos e, if_pos e]
            exact hm j (by omega)
          · rw [if_neg e, if_neg e]
      · unfold wal
        by_cases e : j + 1 = n
        · rw [if_pos e, if_pos e, hS 1 (by omega), hS 2 (by omega), hv j hj]
        · rw [if_neg e, if_neg e]
    · unfold fri
      rw [hS 3 (by omega), hS 4 (by omega), hv j hj]
  · rw [if_neg h, if_neg h, hP j hj]
theorem ang_congr {S S' P P' A A' : Nat → Int32} (hS : ∀ j, j < 7 → S j = S' j) (hP : ∀ r, r < 12 → P r = P' r) (hA : ∀ r, r < 12 → A r = A' r) {n : Nat} (hn : n ≤ 12) {j : Nat} (hj : j < 12) : ang S P A n j = ang S' P' A' n j := by
  unfold ang
  rw [hA j hj, vel_congr (mom_congr hS hP hn hj)]
theorem dyf_congr {D D' A A' x x' : Nat → Int32} {n : Nat} (hn1 : 0 < n) (hn : n ≤ 12) (hD : ∀ i, i < 576 → D i = D' i) (hA : ∀ j, j < n → A j = A' j) (hx : ∀ j, j < n → x j = x' j) {i : Nat} (hi : i < 576) : dyf D A n x i = dyf D' A' n x' i := by
  unfold dyf
  rw [hD i hi]
  congr 1
  refine sm_congr n (fun r hr => ?_)
  rw [hx r hr, rmv_congr (D := D) (D' := D') (A := A) (by omega) (by omega) hD, rmv_congr (D := D) (D' := D') (A := A) (by omega) (by omega) hD, rmv_congrA hr hn1 hA, rmv_congrA hr hn1 hA]
theorem tick_0 {a : Nat → Int32} : tickF a 0 = a 0 := tickF_lo (by omega) (by omega)
theorem tick_1 {a : Nat → Int32} : tickF a 1 = a 1 + 1 := if_pos rfl
theorem tick_33 {a : Nat → Int32} : tickF a 33 = a 33 := tickF_lo (by omega) (by omega)
theorem tick_S {a : Nat → Int32} {j : Nat} (hj : j < 7) : aS (tickF a) j = aS a j := tickF_lo (by omega) (by omega)
theorem mid_P {a : Nat → Int32} {r : Nat} (hr : r < 12) : midA a (9 + r) = mom (aS a) (aP a) (rN a) r := by
  unfold midA
  rw [dyeA_lo (by omega)]
  unfold turnA
  rw [rg_out (by omega), rg_in hr]
theorem mid_A {a : Nat → Int32} {r : Nat} (hr : r < 12) : midA a (21 + r) = ang (aS a) (aP a) (aA a) (rN a) r := by
  unfold midA
  rw [dyeA_lo (by omega)]
  unfold turnA
  rw [rg_in hr]
theorem tick_mid {a : Nat → Int32} {k : Nat} (h1 : k ≠ 1) (h : k < 34 ∨ 34 + 104 * rK a ≤ k) : tickF a k = midA a k := by
  unfold tickF
  rw [if_neg h1, if_neg (by omega)]
theorem tick_P {a : Nat → Int32} {r : Nat} (hr : r < 12) : aP (tickF a) r = mom (aS a) (aP a) (rN a) r := (tick_mid (by omega) (by omega)).trans (mid_P hr)
theorem tick_A {a : Nat → Int32} {r : Nat} (hr : r < 12) : aA (tickF a) r = ang (aS a) (aP a) (aA a) (rN a) r := (tick_mid (by omega) (by omega)).trans (mid_A hr)
theorem tick_D {a : Nat → Int32} (hn1 : 0 < rN a) (hn : rN a ≤ 12) (hk : rK a ≤ 6) {c i : Nat} (hc : c < 3) (hi : i < 576) : aD (tickF a) c i = mixF (aS a 6) (24 * rN a) (dyf (aD a c) (ang (aS a) (aP a) (aA a) (rN a)) (rN a) (psh (aS a) (mom (aS a) (aP a) (rN a)))) i := by
  have e1 : aD (tickF a) c i = midA a (658 + 576 * c + i) := tick_mid (by omega) (by omega)
  rw [e1]
  have e2 : midA a (658 + 576 * c + i) = aD (dyeA (rN a) (turnA (rN a) a)) c i := rfl
  rw [e2]
  unfold dyeA
  rw [aD_rg2 hc hi, turnA_lo (by omega)]
  refine mixF_congr (by omega) (fun q hq => ?_) i hi
  refine dyf_congr hn1 hn (fun p hp => turnA_lo (by omega)) (fun j hj => ?_) (fun j hj => ?_) hq
  · show turnA (rN a) a (21 + j) = _
    unfold turnA
    rw [rg_in (show j < 12 by omega)]
  · refine psh_congr (turnA_lo (by omega)) (turnA_lo (by omega)) ?_
    show turnA (rN a) a (9 + j) = _
    unfold turnA
    rw [rg_out (by omega), rg_in (show j < 12 by omega)]
theorem mid_w {a : Nat → Int32} {k : Nat} (h : k < 9 ∨ 33 ≤ k ∧ k < 658) : midA a k = a k := by
  unfold midA
  rw [dyeA_lo (by omega), turnA_lo (by omega)]
theorem tick_M {a : Nat → Int32} {m : Nat} (hm : m < rK a) {j : Nat} (hj : j < 104) : tickF a (34 + 104 * m + j) = mkF (midA a) (34 + 104 * m) j := by
  unfold tickF
  rw [if_neg (by omega), if_pos (by omega), show (34 + 104 * m + j - 34) / 104 = m by omega, show (34 + 104 * m + j - 34) % 104 = j by omega]
