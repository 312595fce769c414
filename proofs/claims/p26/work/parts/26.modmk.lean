/-! the reference's calls of markers -/
def whereW (a : Nat → Int32) (mk : Nat) (x w : Int32) : Int32 :=
  if 0 ≤ x ∧ x ≤ nI mk - 1 then
    if w = 0 then a (34 + 104 * x.toNatClampNeg) else if w = 1 then a (34 + 104 * x.toNatClampNeg + 1) else if w = 2 then a (34 + 104 * x.toNatClampNeg) / 1000
    else if w = 3 then (if a (36 + 104 * x.toNatClampNeg) < 50 then a (36 + 104 * x.toNatClampNeg) else 50) else if w = 4 then a (34 + 104 * x.toNatClampNeg + 3) else -2
  else -1
theorem rngQ {x : Int32} {n : Nat} (hn : n < 2 ^ 31) (h : 0 ≤ x ∧ x ≤ nI n - 1) : ∃ r, r < n ∧ x = nI r := by
  by_cases h0 : n = 0
  · subst h0
    exact absurd (Int32.le_trans h.1 h.2) (by decide)
  · exact (rngP (by omega) hn).mp h
def kepN (g : Nat) : Nat := if g < 50 then g else 50
def pathW (a : Nat → Int32) (mk : Nat) (x b w : Int32) : Int32 :=
  if 0 ≤ x ∧ x ≤ nI mk - 1 then
    if 0 ≤ w ∧ w ≤ 1 then
      if 0 ≤ b ∧ b ≤ nI (kepN (a (36 + 104 * x.toNatClampNeg)).toNatClampNeg) - 1 then a (38 + 104 * x.toNatClampNeg + 2 * (((a (36 + 104 * x.toNatClampNeg)).toNatClampNeg - 1 - b.toNatClampNeg) % 50) + w.toNatClampNeg) else -6
    else -2
  else -1
theorem kep_eq {g : Nat} (hg : g < 2 ^ 31) : (if nI g < 50 then nI g else 50) = nI (kepN g) := by
  unfold kepN
  by_cases h : g < 50
  · rw [if_pos h, if_pos (show nI g < 50 from (nI_ltI (b := 50) (by omega) (by omega)).mpr h)]
  · rw [if_neg h, if_neg (show ¬ nI g < 50 from fun q => h ((nI_ltI (b := 50) (by omega) (by omega)).mp q))]
    rfl
