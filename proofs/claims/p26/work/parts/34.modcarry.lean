/-! texts carried out, slots: the reference -/
def SL (L : List Int32) : Prop := (L.getD 0 0 = 116 ∧ L.length = 2) ∨ (L.getD 0 0 = 118 ∧ L.length = 3) ∨ (L.getD 0 0 = 100 ∧ L.length = 6)
theorem stepP_SL {ch : Nat → Int32} {s : Nat} (h : (stepP ch s).2.1 = false) : SL (stepP ch s).2.2 := by
  by_cases h1 : ch s = 116
  · rw [show stepP ch s = _ from if_pos h1]
    exact Or.inl ⟨rfl, rfl⟩
  · by_cases h2 : ch s = 118
    · rw [show stepP ch s = _ from (if_neg h1).trans (if_pos h2)]
      exact Or.inr (Or.inl ⟨rfl, rfl⟩)
    · by_cases h3 : ch s = 100
      · rw [show stepP ch s = _ from (if_neg h1).trans ((if_neg h2).trans (if_pos h3))]
        exact Or.inr (Or.inr ⟨rfl, rfl⟩)
      · rw [show stepP ch s = _ from (if_neg h1).trans ((if_neg h2).trans (if_neg h3))] at h
        exact absurd (show true = false from h) (by decide)
theorem txtP_SL {ch : Nat → Int32} : ∀ (f s : Nat), (txtP ch f s).2.1 = false → ∀ L, L ∈ (txtP ch f s).2.2 → SL L
  | 0, s, h => absurd (show true = false from h) (by decide)
  | f + 1, s, h => by
    intro L hL
    by_cases q : (stepP ch s).2.1 = false ∧ ch (stepP ch s).1 = 44
    · rw [show txtP ch (f + 1) s = _ from if_pos q] at h hL
      rcases List.mem_cons.mp hL with e | e
      · rw [e]
        exact stepP_SL q.1
      · exact txtP_SL f _ h L e
    · rw [show txtP ch (f + 1) s = _ from if_neg q] at h hL
      have e : L = (stepP ch s).2.2 := List.mem_singleton.mp hL
      rw [e]
      exact stepP_SL h
def doA (a : Nat → Int32) (L : List Int32) : Bool × (Nat → Int32) :=
  if L.getD 0 0 = 116 then
    if (1 ≤ L.getD 1 0 ∧ L.getD 1 0 ≤ 1000) ∧ a 1 + L.getD 1 0 ≤ 100000 then (true, itF (L.getD 1 0).toNatClampNeg a) else (false, a)
  else if L.getD 0 0 = 118 then
    if (0 ≤ L.getD 1 0 ∧ L.getD 1 0 ≤ nI (rN a) - 1) ∧ (-1500 ≤ L.getD 2 0 ∧ L.getD 2 0 ≤ 1500) then (true, upd a (9 + (L.getD 1 0).toNatClampNeg) (L.getD 2 0 * nI (2 * (L.getD 1 0).toNatClampNeg + 1))) else (false, a)
  else
    if isPl (rN a) (L.getD 1 0) (L.getD 2 0) (L.getD 3 0) (L.getD 4 0) ∧ (1 ≤ L.getD 5 0 ∧ L.getD 5 0 ≤ 1000000) ∧ allA (aD a (L.getD 1 0).toNatClampNeg) (rN a) + L.getD 5 0 ≤ 10000000 then
      (true, upd a (dix (L.getD 1 0).toNatClampNeg (L.getD 2 0).toNatClampNeg (L.getD 3 0).toNatClampNeg (cel a (L.getD 3 0).toNatClampNeg (L.getD 4 0))) (a (dix (L.getD 1 0).toNatClampNeg (L.getD 2 0).toNatClampNeg (L.getD 3 0).toNatClampNeg (cel a (L.getD 3 0).toNatClampNeg (L.getD 4 0))) + L.getD 5 0))
    else (false, a)
def runA : List (List Int32) → (Nat → Int32) → Nat × (Nat → Int32)
  | [], a => (0, a)
  | L :: Ls, a => if (doA a L).1 = true then ((runA Ls (doA a L).2).1 + 1, (runA Ls (doA a L).2).2) else (0, (doA a L).2)
/-- what the calls of a text ask of the row -/
def Gd (a : Nat → Int32) : Prop := (∀ k, k ≤ 1000 → Wf (itF k a) ∧ 0 ≤ itF k a 1) ∧ (∀ r, r < rN a → -1000000000 < vel (aP a) r) ∧ ∀ c, c < 3 → 0 ≤ (allA (aD a c) (rN a)).toInt ∧ (allA (aD a c) (rN a)).toInt ≤ 10000000
theorem txtP_le {p : Nat → Int32} {l : Nat} : ∀ (f s : Nat), s ≤ l → (txtP (chr p l) f s).1 ≤ l
  | 0, s, h => h
  | f + 1, s, h => by
    by_cases q : (stepP (chr p l) s).2.1 = false ∧ chr p l (stepP (chr p l) s).1 = 44
    · rw [show txtP (chr p l) (f + 1) s = _ from if_pos q]
      exact txtP_le f _ (chr_ne q.2 (by decide))
    · rw [show txtP (chr p l) (f + 1) s = _ from if_neg q]
      exact stepP_le h
theorem runA_G {G : (Nat → Int32) → Prop} (h : ∀ a L, G a → G (doA a L).2) : ∀ (Ls : List (List Int32)) (a : Nat → Int32), G a → G (runA Ls a).2
  | [], a, g => g
  | L :: Ls, a, g => by
    by_cases q : (doA a L).1 = true
    · rw [show runA (L :: Ls) a = _ from if_pos q]
      exact runA_G h Ls _ (h a L g)
    · rw [show runA (L :: Ls) a = _ from if_neg q]
      exact h a L g
