/-! the reference's calls that tick and read -/
def itF : Nat → (Nat → Int32) → Nat → Int32
  | 0, a => a
  | k + 1, a => tickF (itF k a)
theorem sw_no {x : Int32} {N k : Nat} (h : x.toInt < 0 ∨ (N : Int) < x.toInt) (hk : k ≤ N) (hN : N < 2 ^ 31 := by decide) : ¬ x = nI k := by
  intro e
  rw [e, nI_toInt (by omega)] at h
  omega
theorem sw4_d {α : Type} {w : Int32} {a0 a1 a2 a3 a4 d : α} (h : w.toInt < 0 ∨ 4 < w.toInt) : (if w = 0 then a0 else if w = 1 then a1 else if w = 2 then a2 else if w = 3 then a3 else if w = 4 then a4 else d) = d := by
  rw [if_neg (show ¬ w = 0 from sw_no (N := 4) (k := 0) h (by decide)), if_neg (show ¬ w = 1 from sw_no (N := 4) (k := 1) h (by decide)), if_neg (show ¬ w = 2 from sw_no (N := 4) (k := 2) h (by decide)), if_neg (show ¬ w = 3 from sw_no (N := 4) (k := 3) h (by decide)), if_neg (show ¬ w = 4 from sw_no (N := 4) (k := 4) h (by decide))]
theorem sw5_d {α : Type} {w : Int32} {a0 a1 a2 a3 a4 a5 d : α} (h : w.toInt < 0 ∨ 5 < w.toInt) : (if w = 0 then a0 else if w = 1 then a1 else if w = 2 then a2 else if w = 3 then a3 else if w = 4 then a4 else if w = 5 then a5 else d) = d := by
  rw [if_neg (show ¬ w = 0 from sw_no (N := 5) (k := 0) h (by decide)), if_neg (show ¬ w = 1 from sw_no (N := 5) (k := 1) h (by decide)), if_neg (show ¬ w = 2 from sw_no (N := 5) (k := 2) h (by decide)), if_neg (show ¬ w = 3 from sw_no (N := 5) (k := 3) h (by decide)), if_neg (show ¬ w = 4 from sw_no (N := 5) (k := 4) h (by decide)), if_neg (show ¬ w = 5 from sw_no (N := 5) (k := 5) h (by decide))]
theorem sw6_d {α : Type} {w : Int32} {a0 a1 a2 a3 a4 a5 a6 d : α} (h : w.toInt < 0 ∨ 6 < w.toInt) : (if w = 0 then a0 else if w = 1 then a1 else if w = 2 then a2 else if w = 3 then a3 else if w = 4 then a4 else if w = 5 then a5 else if w = 6 then a6 else d) = d := by
  rw [if_neg (show ¬ w = 0 from sw_no (N := 6) (k := 0) h (by decide)), if_neg (show ¬ w = 1 from sw_no (N := 6) (k := 1) h (by decide)), if_neg (show ¬ w = 2 from sw_no (N := 6) (k := 2) h (by decide)), if_neg (show ¬ w = 3 from sw_no (N := 6) (k := 3) h (by decide)), if_neg (show ¬ w = 4 from sw_no (N := 6) (k := 4) h (by decide)), if_neg (show ¬ w = 5 from sw_no (N := 6) (k := 5) h (by decide)), if_neg (show ¬ w = 6 from sw_no (N := 6) (k := 6) h (by decide))]
def ringW (a : Nat → Int32) (n : Nat) (x w : Int32) : Int32 :=
  if 0 ≤ x ∧ x ≤ nI n - 1 then
    if w = 0 then vel (aP a) x.toNatClampNeg else if w = 1 then a (9 + x.toNatClampNeg) else if w = 2 then a (21 + x.toNatClampNeg)
    else if w = 3 then psh (aS a) (aP a) x.toNatClampNeg else if w = 4 then ringS (aD a 0) x.toNatClampNeg
    else if w = 5 then ringS (aD a 1) x.toNatClampNeg else if w = 6 then ringS (aD a 2) x.toNatClampNeg else -1000000002
  else -1000000001
def dyeW (a : Nat → Int32) (n : Nat) (c L r s : Int32) : Int32 :=
  if isPl n c L r s then a (dix c.toNatClampNeg L.toNatClampNeg r.toNatClampNeg (cel a r.toNatClampNeg s)) else -1
def colW (a : Nat → Int32) (n : Nat) (x w : Int32) : Int64 :=
  if 0 ≤ x ∧ x ≤ 2 then
    if w = 0 then (allA (aD a x.toNatClampNeg) n).toInt64 else if w = 1 then (sm (rowS (aD a x.toNatClampNeg) 0) n).toInt64
    else if w = 2 then (cnf (aD a x.toNatClampNeg) 576).toInt64 else if w = 3 then (mxf (aD a x.toNatClampNeg) 576).toInt64
    else if w = 4 then meanP (aD a x.toNatClampNeg) n (allA (aD a x.toNatClampNeg) n)
    else if w = 5 then unev (aD a x.toNatClampNeg) n (allA (aD a x.toNatClampNeg) n).toInt64 else -2
  else -1
def staW (a : Nat → Int32) (n : Nat) (pm w : Int32) : Int32 :=
  if 6 ≤ w ∧ w ≤ 12 then a (2 + (w.toNatClampNeg - 6)) else
    if w = 0 then a 1 else if w = 1 then a 0 else if w = 2 then a 33 else if w = 3 then sm (aP a) n
    else if w = 4 then mxf (fun r => absI (vel (aP a) r - vel (aP a) (r + 1))) (n - 1) else if w = 5 then pm else -1000000002
