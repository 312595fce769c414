def SS (S : Nat → Int32) : Prop := (0 ≤ (S 0).toInt ∧ (S 0).toInt ≤ 100) ∧ (0 ≤ (S 1).toInt ∧ (S 1).toInt ≤ 100) ∧ (-1500 ≤ (S 2).toInt ∧ (S 2).toInt ≤ 1500) ∧ (0 ≤ (S 3).toInt ∧ (S 3).toInt ≤ 100) ∧ (-1500 ≤ (S 4).toInt ∧ (S 4).toInt ≤ 1500)
theorem mom_parts {S P : Nat → Int32} {B : Int} (hS : SS S) (hB : 2000 ≤ B ∧ B ≤ 410000) (h : VB P B) {n r : Nat} (hn : n ≤ 12) (hr : r < n) : (vel (mom S P n) r).toInt = ((P r).toInt + (inn S P r).toInt - (out S P n r).toInt + (wal S P n r).toInt + (fri S P r).toInt) / (2 * r + 1 : Nat) ∧ (r = 0 → (inn S P r).toInt = 0) ∧ (1 ≤ r → btw (inn S P r).toInt ((vel P (r - 1)).toInt - (vel P r).toInt)) ∧ (r + 1 < n → btw (out S P n r).toInt ((vel P r).toInt - (vel P (r + 1)).toInt)) ∧ (¬ r + 1 < n → (out S P n r).toInt = 0) ∧ (r + 1 = n → btw (wal S P n r).toInt ((S 2).toInt - (vel P r).toInt)) ∧ (¬ r + 1 = n → (wal S P n r).toInt = 0) := by
  obtain ⟨s0, s1, s2, s3, s4⟩ := hS
  have hv : ∀ q, q < 12 → -500000 ≤ (vel P q).toInt ∧ (vel P q).toInt ≤ 500000 := fun q hq => VB_v h (by omega) hq
  have a2 : -500000 ≤ (S 2).toInt ∧ (S 2).toInt ≤ 500000 := by omega
  have i0 : r = 0 → (inn S P r).toInt = 0 := fun e => by unfold inn; rw [if_pos e]; rfl
  have i1 : 1 ≤ r → btw (inn S P r).toInt ((vel P (r - 1)).toInt - (vel P r).toInt) := fun e => by
    unfold inn mv
    rw [if_neg (by omega), show r - 1 + 1 = r by omega]
    exact shr_b s0 (hv _ (by omega)) (hv _ (by omega))
  have o1 : r + 1 < n → btw (out S P n r).toInt ((vel P r).toInt - (vel P (r + 1)).toInt) := fun e => by
    unfold out mv
    rw [if_pos e]
    exact shr_b s0 (hv _ (by omega)) (hv _ (by omega))
  have o0 : ¬ r + 1 < n → (out S P n r).toInt = 0 := fun e => by unfold out; rw [if_neg e]; rfl
  have w1 : r + 1 = n → btw (wal S P n r).toInt ((S 2).toInt - (vel P r).toInt) := fun e => by
    unfold wal
    rw [if_pos e]
    exact shr_b s1 a2 (hv _ (by omega))
  have w0 : ¬ r + 1 = n → (wal S P n r).toInt = 0 := fun e => by unfold wal; rw [if_neg e]; rfl
  refine ⟨?_, i0, i1, o1, o0, w1, w0⟩
  have bI : -100000000 ≤ (inn S P r).toInt ∧ (inn S P r).toInt ≤ 100000000 := by
    by_cases e : r = 0
    · rw [i0 e]; omega
    · have := i1 (by omega)
      have a := hv (r - 1) (by omega)
      have b := hv r (by omega)
      rcases Int.le_total 0 ((vel P (r - 1)).toInt - (vel P r).toInt) with c | c
      · have := this.1 c; omega
      · have := this.2 c; omega
  have bO : -100000000 ≤ (out S P n r).toInt ∧ (out S P n r).toInt ≤ 100000000 := by
    by_cases e : r + 1 < n
    · have := o1 e
      have a := hv (r + 1) (by omega)
      have b := hv r (by omega)
      rcases Int.le_total 0 ((vel P r).toInt - (vel P (r + 1)).toInt) with c | c
      · have := this.1 c; omega
      · have := this.2 c; omega
    · rw [o0 e]; omega
  have bW : -100000000 ≤ (wal S P n r).toInt ∧ (wal S P n r).toInt ≤ 100000000 := by
    by_cases e : r + 1 = n
    · have := w1 e
      have b := hv r (by omega)
      rcases Int.le_total 0 ((S 2).toInt - (vel P r).toInt) with c | c
      · have := this.1 c; omega
      · have := this.2 c; omega
    · rw [w0 e]; omega
  have hw : 1 ≤ 2 * r + 1 ∧ 2 * r + 1 ≤ 23 := by omega
  have bmul : ∀ x : Int, -501500 ≤ x → x ≤ 501500 → -11534500 ≤ x * (2 * r + 1 : Nat) ∧ x * (2 * r + 1 : Nat) ≤ 11534500 := by
    intro x h1 h2
    have g1 := Int.mul_le_mul_of_nonneg_right h1 (show (0 : Int) ≤ (2 * r + 1 : Nat) by omega)
    have g2 := Int.mul_le_mul_of_nonneg_right h2 (show (0 : Int) ≤ (2 * r + 1 : Nat) by omega)
    omega
  have bF : -100000000 ≤ (fri S P r).toInt ∧ (fri S P r).toInt ≤ 100000000 := by
    have := fri_int (w := 2 * r + 1) hw s3 s4 (hv r (by omega))
    have b := hv r (by omega)
    have m := bmul ((S 4).toInt - (vel P r).toInt) (by omega) (by omega)
    unfold fri
    rcases Int.le_total 0 ((S 4).toInt - (vel P r).toInt) with c | c
    · have := this.1 c; omega
    · have := this.2 c; omega
  have bP : -100000000 ≤ (P r).toInt ∧ (P r).toInt ≤ 100000000 := by
    have := P_v P (r := r) (by omega)
    have b := hv r (by omega)
    have m := bmul (vel P r).toInt (by omega) (by omega)
    rw [Int.mul_comm (vel P r).toInt] at m
    omega
  rw [vel_int _ (show r < 12 by omega)]
  congr 1
  unfold mom
  rw [if_pos hr]
  exact add5 bP bI bO bW bF
theorem mom_r2 {S P : Nat → Int32} {B : Int} (hS : SS S) (hB : 2000 ≤ B ∧ B ≤ 410000) (h : VB P B) {n r : Nat} (hn : n ≤ 12) (hr2 : 2 ≤ r) (hr : r < 12) : -B ≤ (vel (mom S P n) r).toInt ∧ (vel (mom S P n) r).toInt ≤ B := by
  by_cases hrn : r < n
  · obtain ⟨e, i0, i1, o1, o0, w1, w0⟩ := mom_parts hS hB h hn hrn
    obtain ⟨s0, s1, s2, s3, s4⟩ := hS
    have v0 := h.1 r (by omega) hr
    have vp := h.1 (r - 1) (by omega) (by omega)
    have hf := fri_int (w := 2 * r + 1) (by omega) s3 s4 (VB_v h (by omega) hr)
    rw [e]
    refine mid_bound (w := (2 * r + 1 : Nat)) (v := (vel P r).toInt) (z := (S 4).toInt - (vel P r).toInt) (by omega) ?_ v0 (btw_b (i1 (by omega)) (by omega) v0) ?_ ?_ (by omega) hf
    · have := P_v P hr
      omega
    · by_cases c : r + 1 < n
      · have vn := h.1 (r + 1) (by omega) (by omega)
        exact btw_n (o1 c) (by omega) v0
      · rw [o0 c]; omega
    · by_cases c : r + 1 = n
      · exact btw_b (w1 c) (by omega) v0
      · rw [w0 c]; omega
  · have e : vel (mom S P n) r = vel P r := vel_congr (if_neg hrn)
    rw [e]
    exact h.1 r (by omega) hr
