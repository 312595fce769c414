/-! pure words: numbers, sums, velocities, pushes -/
theorem inc1 (i : Nat) : nI i + Int32.ofInt 1 = nI (i + 1) := by
  rw [show Int32.ofInt 1 = 1 by decide]
  exact nI_1 i
theorem nle {a b : Nat} (h : nI a ≤ nI b) (ha : a < 2 ^ 31 := by omega) (hb : b < 2 ^ 31 := by omega) : a ≤ b := (nI_leI ha hb).mp h
theorem nnle {a b : Nat} (h : ¬ nI a ≤ nI b) (ha : a < 2 ^ 31 := by omega) (hb : b < 2 ^ 31 := by omega) : b < a := Nat.not_le.mp fun q => h ((nI_leI ha hb).mpr q)
theorem nlt {a b : Nat} (h : nI a < nI b) (ha : a < 2 ^ 31 := by omega) (hb : b < 2 ^ 31 := by omega) : a < b := (nI_ltI ha hb).mp h
theorem nnlt {a b : Nat} (h : ¬ nI a < nI b) (ha : a < 2 ^ 31 := by omega) (hb : b < 2 ^ 31 := by omega) : b ≤ a := Nat.not_lt.mp fun q => h ((nI_ltI ha hb).mpr q)
def sm (f : Nat → Int32) : Nat → Int32
  | 0 => 0
  | n + 1 => sm f n + f n
def sml (f : Nat → Int64) : Nat → Int64
  | 0 => 0
  | n + 1 => sml f n + f n
def mxf (f : Nat → Int32) : Nat → Int32
  | 0 => 0
  | n + 1 => if mxf f n < f n then f n else mxf f n
def cnf (f : Nat → Int32) : Nat → Int32
  | 0 => 0
  | n + 1 => if 0 < f n then cnf f n + 1 else cnf f n
def absI (x : Int32) : Int32 := if 0 ≤ x then x else 0 - x
def absL (x : Int64) : Int64 := if 0 < x then x else -x
def vel (P : Nat → Int32) (r : Nat) : Int32 := fdv (P r) (nI (2 * r + 1))
def clP (x : Int32) : Int32 := if x < -500 then -500 else if 500 < x then 500 else x
def psh (S P : Nat → Int32) (r : Nat) : Int32 := clP (S 5 * (vel P r - S 4) / 100)
theorem wt_eq (r : Nat) : 2 * nI r + 1 = nI (2 * r + 1) := by
  show nI 2 * nI r + nI 1 = _
  rw [pk_mul, nI_add]
theorem wt_ne {r : Nat} (h : r < 100) : ¬ nI (2 * r + 1) = 0 := nI_ne0 (by omega) (by omega)
/-- the component's clamp is the plain one -/
theorem clP_eq (x : Int32) : (if (-500 : Int32) < (if x < (500 : Int32) then x else 500) then (if x < (500 : Int32) then x else 500) else -500) = clP x := by
  unfold clP
  by_cases h1 : x < 500
  · rw [if_pos h1]
    by_cases h2 : (-500 : Int32) < x
    · rw [if_pos h2, if_neg (by rw [Int32.not_lt]; exact Int32.le_of_lt h2), if_neg (by rw [Int32.not_lt]; exact Int32.le_of_lt h1)]
    · rw [if_neg h2]
      by_cases h3 : x < -500
      · rw [if_pos h3]
      · rw [if_neg h3, if_neg (by rw [Int32.not_lt]; exact Int32.le_of_lt h1)]
        exact Int32.le_antisymm (Int32.not_lt.mp h3) (Int32.not_lt.mp h2)
  · rw [if_neg h1, if_pos (by decide)]
    have h4 : ¬ x < -500 := fun q => h1 (Int32.lt_trans q (by decide))
    rw [if_neg h4]
    by_cases h3 : 500 < x
    · rw [if_pos h3]
    · rw [if_neg h3]
      exact Int32.le_antisymm (Int32.not_lt.mp h1) (Int32.not_lt.mp h3)
def rwi (L r : Nat) : Nat := (L * 12 + r) * 24
def rowS (f : Nat → Int32) (L r : Nat) : Int32 := sm (fun j => f (rwi L r + j)) 24
def ringS (f : Nat → Int32) (r : Nat) : Int32 := rowS f 0 r + rowS f 1 r
def meanP (f : Nat → Int32) (n : Nat) (all : Int32) : Int64 := if all = 0 then -6 else 1000 * sml (fun r => (nI r).toInt64 * (ringS f r).toInt64) n / all.toInt64
theorem neg_msb (x : Int32) : x < 0 ↔ x.toBitVec.msb = true := by
  rw [Int32.lt_iff_toInt_lt, Int32.toInt_zero, BitVec.msb_eq_toInt, decide_eq_true_iff]
  exact Iff.rfl
theorem xor_neg {x y : Int32} (hy : 0 < y.toInt) : x ^^^ y < 0 ↔ x < 0 := by
  have h : ¬ y < 0 := by rw [Int32.lt_iff_toInt_lt, Int32.toInt_zero]; omega
  rw [neg_msb] at h
  rw [neg_msb, neg_msb, Int32.toBitVec_xor, BitVec.msb_xor]
  cases h1 : y.toBitVec.msb
  · simp
  · exact absurd h1 h
theorem rem_neg {x y : Int32} (hy : 0 < y.toInt) : x - x / y * y < 0 ↔ (x < 0 ∧ ¬ (x - x / y * y = 0)) := by
  rw [Int32.lt_iff_toInt_lt, Int32.lt_iff_toInt_lt, Int32.toInt_zero, ← Int32.toInt_inj, Int32.toInt_zero, rem_toInt]
  constructor
  · intro h
    refine ⟨?_, by omega⟩
    rcases Int.lt_or_le x.toInt 0 with q | q
    · exact q
    · have := Int.tmod_nonneg y.toInt q
      omega
  · rintro ⟨h1, h2⟩
    have h3 : (-x.toInt).tmod y.toInt = -(x.toInt.tmod y.toInt) := Int.neg_tmod _ _
    have := Int.tmod_nonneg y.toInt (show 0 ≤ -x.toInt by omega)
    omega
theorem fmd_fmv {x y : Int32} (hy : 0 < y.toInt) : fmd x y = fmv x y := by
  have key : (x ^^^ y < 0 ∧ ¬ (x - x / y * y = 0)) ↔ x - x / y * y < 0 := by rw [xor_neg hy, rem_neg hy]
  unfold fmd fmv fmOf
  by_cases h : x - x / y * y < 0
  · rw [if_pos (key.mpr h), if_neg (Int32.not_le.mpr h)]
  · rw [if_neg (fun q => h (key.mp q)), if_pos (Int32.not_lt.mp h)]
theorem fmd_mod {x y : Int32} (hy : 0 < y.toInt) : fmd x y = if x - x / y * y < 0 then x - x / y * y + y else x - x / y * y := by
  rw [fmd_fmv hy]
  unfold fmv fmOf
  by_cases h : x - x / y * y < 0
  · rw [if_pos h, if_neg (Int32.not_le.mpr h)]
  · rw [if_neg h, if_pos (Int32.not_lt.mp h)]
theorem fmd_ok (x : Int32) : ∃ a, a < 3600 ∧ fmd x 3600 = nI a := by
  have h0 : (3600 : Int32).toInt = 3600 := by decide
  obtain ⟨c, h1, h2⟩ := fmv_nat (a := x) (m := 3600) (by rw [h0]; omega)
  rw [h0] at h2
  exact ⟨c, by omega, by rw [fmd_fmv (by rw [h0]; omega)]; exact h1⟩
theorem fdv_down {x y : Int32} (hy : 0 < y.toInt) : fdv x y = x / y - zb (x - x / y * y < 0) := by
  have e : (x / y * y = x) ↔ (x - x / y * y = 0) := by
    constructor
    · intro h
      rw [h, Int32.sub_self]
    · intro h
      have := congrArg (fun z => z + x / y * y) h
      simpa using this.symm
  have key : (x ^^^ y < 0 ∧ ¬ (x / y * y = x)) ↔ x - x / y * y < 0 := by rw [xor_neg hy, rem_neg hy, e]
  unfold fdv
  by_cases h : x - x / y * y < 0
  · rw [if_pos (key.mpr h), zb_t h]
  · rw [if_neg (fun q => h (key.mp q)), zb_f h, Int32.sub_zero]
