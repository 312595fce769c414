/-! velocities stay bounded -/
def VB (P : Nat → Int32) (B : Int) : Prop := (∀ r, 1 ≤ r → r < 12 → -B ≤ (vel P r).toInt ∧ (vel P r).toInt ≤ B) ∧ (-(6 * B) ≤ 5 * (vel P 0).toInt ∧ 5 * (vel P 0).toInt ≤ 6 * B) ∧ (-(2 * B) ≤ (vel P 0).toInt + (vel P 1).toInt ∧ (vel P 0).toInt + (vel P 1).toInt ≤ 2 * B)
theorem VB_v {P : Nat → Int32} {B : Int} (h : VB P B) (hB : 0 ≤ B ∧ B ≤ 410000) {r : Nat} (hr : r < 12) : -500000 ≤ (vel P r).toInt ∧ (vel P r).toInt ≤ 500000 := by
  by_cases e : r = 0
  · rw [e]
    have := h.2.1
    omega
  · have := h.1 r (by omega) hr
    omega
/-- a moved amount is between none and the difference -/
def btw (q x : Int) : Prop := (0 ≤ x → 0 ≤ q ∧ q ≤ x) ∧ (x ≤ 0 → x ≤ q ∧ q ≤ 0)
theorem shr_b {S a b : Int32} (hS : 0 ≤ S.toInt ∧ S.toInt ≤ 100) (ha : -500000 ≤ a.toInt ∧ a.toInt ≤ 500000) (hb : -500000 ≤ b.toInt ∧ b.toInt ≤ 500000) : btw (S * (a - b) / 100).toInt (a.toInt - b.toInt) := by
  rw [shr_int hS ha hb]
  have h := scl (x := a.toInt - b.toInt) hS
  have td := td_100 (S.toInt * (a.toInt - b.toInt))
  constructor
  · intro q
    have h1 := h.1 q
    have := td.1 h1.1
    omega
  · intro q
    have h1 := h.2 q
    have := td.2 h1.2
    omega
theorem P_v (P : Nat → Int32) {r : Nat} (hr : r < 12) : (2 * r + 1 : Nat) * (vel P r).toInt ≤ (P r).toInt ∧ (P r).toInt ≤ (2 * r + 1 : Nat) * (vel P r).toInt + 2 * r := by
  rw [vel_int P hr]
  have d1 := Int.mul_ediv_add_emod (P r).toInt (2 * r + 1 : Nat)
  have d2 := Int.emod_nonneg (P r).toInt (show ((2 * r + 1 : Nat) : Int) ≠ 0 by omega)
  have d3 := Int.emod_lt_of_pos (P r).toInt (show (0 : Int) < (2 * r + 1 : Nat) by omega)
  omega
theorem add_i {a b : Int32} {B C : Int} (ha : -B ≤ a.toInt ∧ a.toInt ≤ B) (hb : -C ≤ b.toInt ∧ b.toInt ≤ C) (h : B + C ≤ 2000000000) : (a + b).toInt = a.toInt + b.toInt ∧ -(B + C) ≤ (a + b).toInt ∧ (a + b).toInt ≤ B + C := by
  rw [Int32.toInt_add, Int.bmod_eq_of_le (by omega) (by omega)]
  omega
theorem sub_i {a b : Int32} {B C : Int} (ha : -B ≤ a.toInt ∧ a.toInt ≤ B) (hb : -C ≤ b.toInt ∧ b.toInt ≤ C) (h : B + C ≤ 2000000000) : (a - b).toInt = a.toInt - b.toInt ∧ -(B + C) ≤ (a - b).toInt ∧ (a - b).toInt ≤ B + C := by
  rw [Int32.toInt_sub, Int.bmod_eq_of_le (by omega) (by omega)]
  omega
theorem add5 {p i o w f : Int32} (hp : -100000000 ≤ p.toInt ∧ p.toInt ≤ 100000000) (hi : -100000000 ≤ i.toInt ∧ i.toInt ≤ 100000000) (ho : -100000000 ≤ o.toInt ∧ o.toInt ≤ 100000000) (hw : -100000000 ≤ w.toInt ∧ w.toInt ≤ 100000000) (hf : -100000000 ≤ f.toInt ∧ f.toInt ≤ 100000000) : (p + i - o + w + f).toInt = p.toInt + i.toInt - o.toInt + w.toInt + f.toInt := by
  have h1 := add_i hp hi (by decide)
  have h2 := sub_i h1.2 ho (by decide)
  have h3 := add_i h2.2 hw (by decide)
  have h4 := add_i h3.2 hf (by decide)
  omega
