theorem mom_VB {S P : Nat → Int32} {B : Int} (hS : SS S) (hB : 2000 ≤ B ∧ B ≤ 410000) (h : VB P B) {n : Nat} (hn2 : 2 ≤ n) (hn : n ≤ 12) : VB (mom S P n) (B + 4) := by
  obtain ⟨e0, i00, _, o01, _, _, w00⟩ := mom_parts hS hB h hn (show 0 < n by omega)
  obtain ⟨e1, _, i11, o11, o10, w11, w10⟩ := mom_parts hS hB h hn (show 1 < n by omega)
  have o01 := o01 (by omega)
  have i00 := i00 rfl
  have w00 := w00 (by omega)
  have i11 := i11 (by omega)
  have b0 := h.2.1
  have b2 := h.2.2
  have v1 := h.1 1 (by omega) (by omega)
  have v2 := h.1 2 (by omega) (by omega)
  have p0 := P_v P (r := 0) (by omega)
  have p1 := P_v P (r := 1) (by omega)
  obtain ⟨s0, s1, s2, s3, s4⟩ := hS
  have f0 : (0 ≤ (S 4).toInt - (vel P 0).toInt → 0 ≤ (fri S P 0).toInt ∧ 10 * (fri S P 0).toInt ≤ (S 4).toInt - (vel P 0).toInt) ∧ ((S 4).toInt - (vel P 0).toInt ≤ 0 → (S 4).toInt - (vel P 0).toInt ≤ 10 * (fri S P 0).toInt ∧ (fri S P 0).toInt ≤ 0) := by
    have q := fri_int (w := 1) (by omega) s3 s4 (VB_v h (by omega) (show 0 < 12 by omega))
    rw [show ((1 : Nat) : Int) = 1 from rfl, Int.mul_one] at q
    exact q
  have f1 : (0 ≤ (S 4).toInt - (vel P 1).toInt → 0 ≤ (fri S P 1).toInt ∧ 10 * (fri S P 1).toInt ≤ ((S 4).toInt - (vel P 1).toInt) * 3) ∧ ((S 4).toInt - (vel P 1).toInt ≤ 0 → ((S 4).toInt - (vel P 1).toInt) * 3 ≤ 10 * (fri S P 1).toInt ∧ (fri S P 1).toInt ≤ 0) := by
    have q := fri_int (w := 3) (by omega) s3 s4 (VB_v h (by omega) (show 1 < 12 by omega))
    rw [show ((3 : Nat) : Int) = 3 from rfl] at q
    exact q
  have eio : inn S P 1 = out S P n 0 := by
    unfold inn out
    rw [if_neg (by omega), if_pos (by omega)]
  have ev0 : (vel (mom S P n) 0).toInt = (vel P 0).toInt - (out S P n 0).toInt + (fri S P 0).toInt := by
    rw [e0, i00, w00]
    have : (P 0).toInt = (vel P 0).toInt := by omega
    rw [this, show ((2 * 0 + 1 : Nat) : Int) = 1 from rfl, Int.ediv_one]
    omega
  rw [show ((2 * 1 + 1 : Nat) : Int) = 3 from rfl] at e1 p1
  have hr0 := r0_bound hB.1 b0 v1 o01 rfl s4 f0
  have hp1 : 3 * (vel P 1).toInt ≤ (P 1).toInt ∧ (P 1).toInt ≤ 3 * (vel P 1).toInt + 2 := by omega
  have key : (-(3 * B) ≤ (P 1).toInt + (inn S P 1).toInt - (out S P n 1).toInt + (wal S P n 1).toInt + (fri S P 1).toInt ∧ (P 1).toInt + (inn S P 1).toInt - (out S P n 1).toInt + (wal S P n 1).toInt + (fri S P 1).toInt ≤ 3 * B + 2) ∧ (-(6 * B) - 12 ≤ 3 * ((vel P 0).toInt - (out S P n 0).toInt + (fri S P 0).toInt) + ((P 1).toInt + (inn S P 1).toInt - (out S P n 1).toInt + (wal S P n 1).toInt + (fri S P 1).toInt) ∧ 3 * ((vel P 0).toInt - (out S P n 0).toInt + (fri S P 0).toInt) + ((P 1).toInt + (inn S P 1).toInt - (out S P n 1).toInt + (wal S P n 1).toInt + (fri S P 1).toInt) ≤ 6 * B + 12) := by
    by_cases c : 1 + 1 = n
    · have w := w11 c
      have o := o10 (by omega)
      have r1 := r1_bound hB.1 b0 v1 b2 hp1 i11 (x := (S 2).toInt - (vel P 1).toInt) (by omega) w rfl s4 f1
      have sm := sum_bound2 hB.1 b0 v1 b2 hp1 o01 w s2 s4 f0 f1
      rw [o, eio] at *
      omega
    · have w := w10 c
      have o := o11 (by omega)
      have on : btw (-(out S P n 1).toInt) ((vel P 2).toInt - (vel P 1).toInt) := by
        constructor
        · intro q
          have := o.2 (by show (vel P 1).toInt - (vel P 2).toInt ≤ 0; omega)
          change (vel P 1).toInt - (vel P 2).toInt ≤ _ ∧ _ at this
          omega
        · intro q
          have := o.1 (by show 0 ≤ (vel P 1).toInt - (vel P 2).toInt; omega)
          change _ ∧ _ ≤ (vel P 1).toInt - (vel P 2).toInt at this
          omega
      have r1 := r1_bound hB.1 b0 v1 b2 hp1 i11 (x := (vel P 2).toInt - (vel P 1).toInt) (by omega) on rfl s4 f1
      have hv : ∀ q, q < 12 → -500000 ≤ (vel P q).toInt ∧ (vel P q).toInt ≤ 500000 := fun q hq => VB_v h (by omega) hq
      have q0 : (out S P n 0).toInt = ((S 0).toInt * ((vel P 0).toInt - (vel P 1).toInt)).tdiv 100 := by
        unfold out mv
        rw [if_pos (by omega)]
        exact shr_int s0 (hv 0 (by omega)) (hv 1 (by omega))
      have q1 : (out S P n 1).toInt = ((S 0).toInt * ((vel P 1).toInt - (vel P 2).toInt)).tdiv 100 := by
        unfold out mv
        rw [if_pos (by omega)]
        exact shr_int s0 (hv 1 (by omega)) (hv 2 (by omega))
      have hY := scl (x := -2 * ((vel P 0).toInt - (vel P 1).toInt) - ((vel P 1).toInt - (vel P 2).toInt)) s0
      have t0 := td_100 ((S 0).toInt * ((vel P 0).toInt - (vel P 1).toInt))
      have t1 := td_100 ((S 0).toInt * ((vel P 1).toInt - (vel P 2).toInt))
      have eY : (S 0).toInt * (-2 * ((vel P 0).toInt - (vel P 1).toInt) - ((vel P 1).toInt - (vel P 2).toInt)) = -2 * ((S 0).toInt * ((vel P 0).toInt - (vel P 1).toInt)) - (S 0).toInt * ((vel P 1).toInt - (vel P 2).toInt) := by
        rw [Int.mul_sub, Int.mul_left_comm]
      have sm := sum_bound3 hB.1 b0 v1 v2 b2 hp1 hY (q0 := (out S P n 0).toInt) (q1 := (out S P n 1).toInt) (by
        rw [eY, q0, q1]
        generalize (S 0).toInt * ((vel P 0).toInt - (vel P 1).toInt) = y0 at t0
        generalize (S 0).toInt * ((vel P 1).toInt - (vel P 2).toInt) = y1 at t1
        rcases Int.le_total 0 y0 with g | g <;> rcases Int.le_total 0 y1 with k | k
        · have := t0.1 g; have := t1.1 k; omega
        · have := t0.1 g; have := t1.2 k; omega
        · have := t0.2 g; have := t1.1 k; omega
        · have := t0.2 g; have := t1.2 k; omega) s4 f0 f1
      rw [w, eio]
      rw [eio] at r1
      omega
  refine ⟨fun r hr1 hr => ?_, ?_, ?_⟩
  · by_cases e : r = 1
    · rw [e, e1]
      omega
    · have := mom_r2 (S := S) (P := P) ⟨s0, s1, s2, s3, s4⟩ hB h hn (show 2 ≤ r by omega) hr
      omega
  · rw [ev0]
    omega
  · rw [ev0, e1]
    omega
