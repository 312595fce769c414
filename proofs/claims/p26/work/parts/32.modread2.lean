/-! texts: a velocity, a dye, a step, as the reference reads them -/
theorem chr_ne {p : Nat → Int32} {l s : Nat} {c : Int32} (h : chr p l s = c) (hc : c ≠ 0) : s < l := by
  by_cases q : s < l
  · exact q
  · unfold chr at h
    rw [if_neg q] at h
    exact absurd h.symm hc
theorem mNeed_le {p : Nat → Int32} {l s : Nat} {w : Bool} {c : Int32} (hc : c ≠ 0) (hs : s ≤ l) : (mNeed (chr p l) c s w).1 ≤ l := by
  unfold mNeed
  by_cases h : w = true ∨ ¬ chr p l s = c
  · rw [if_pos h]; exact hs
  · rw [if_neg h]
    have : s < l := chr_ne (Decidable.not_not.mp (fun q => h (Or.inr q))) hc
    exact this
theorem mOne_le {p : Nat → Int32} {l s : Nat} {w : Bool} {lo hi : Int32} (hc : 48 ≤ lo) (hs : s ≤ l) : (mOne (chr p l) lo hi s w).1 ≤ l := by
  unfold mOne
  by_cases h : w = true ∨ ¬ (lo ≤ chr p l s ∧ chr p l s ≤ hi)
  · rw [if_pos h]; exact hs
  · rw [if_neg h]
    have h2 : lo ≤ chr p l s ∧ chr p l s ≤ hi := Decidable.not_not.mp (fun q => h (Or.inr q))
    have : s < l := chr_lt (Int32.le_trans hc h2.1)
    exact this
theorem numL_le {p : Nat → Int32} {l : Nat} {m : Int32} : ∀ (f : Nat) (v : Int32) (s : Nat), s ≤ l → s ≤ (numL (chr p l) m f v s).2 ∧ (numL (chr p l) m f v s).2 ≤ l
  | 0, v, s, h => ⟨Nat.le_refl s, h⟩
  | f + 1, v, s, h => by
    by_cases q : 0 < v ∧ (48 ≤ chr p l s ∧ chr p l s ≤ 57) ∧ 10 * v + chr p l s - 48 ≤ m
    · rw [show numL (chr p l) m (f + 1) v s = numL (chr p l) m f (10 * v + chr p l s - 48) (s + 1) from if_pos q]
      have := numL_le (p := p) (l := l) (m := m) f (10 * v + chr p l s - 48) (s + 1) (chr_lt q.2.1.1)
      exact ⟨by omega, this.2⟩
    · rw [show numL (chr p l) m (f + 1) v s = (v, s) from if_neg q]
      exact ⟨Nat.le_refl s, h⟩
theorem dlo_le {lo : Int32} {x : Int32} (h : 48 + (if 0 < lo then (1 : Int32) else 0) ≤ x) : 48 ≤ x := Int32.le_trans (by split <;> decide) h
theorem mNum_le {p : Nat → Int32} {l s : Nat} {w : Bool} {lo hi : Int32} (hs : s ≤ l) : (mNum (chr p l) lo hi s w).2.1 ≤ l := by
  unfold mNum
  by_cases h : w = true ∨ ¬ (48 + (if 0 < lo then 1 else 0) ≤ chr p l s ∧ chr p l s ≤ 57)
  · rw [if_pos h]; exact hs
  · rw [if_neg h]
    have h2 : 48 + (if 0 < lo then 1 else 0) ≤ chr p l s ∧ chr p l s ≤ 57 := Decidable.not_not.mp (fun q => h (Or.inr q))
    exact (numL_le _ _ _ (chr_lt (dlo_le h2.1))).2
def negV (ch : Nat → Int32) (d : Nat × Bool) : Bool := decide (¬ d.2 = true ∧ ch d.1 = 45)
def velP (ch : Nat → Int32) (s : Nat) (w : Bool) : Nat × Bool × Int32 × Int32 :=
  let n1 := mNum ch 0 11 s w
  let d := mNeed ch 58 n1.2.1 n1.2.2
  let n2 := mNum ch 0 1500 (if negV ch d = true then d.1 + 1 else d.1) d.2
  (n2.2.1, n2.2.2, n1.1, if negV ch d = true then -n2.1 else n2.1)
def dyeP (ch : Nat → Int32) (s : Nat) (w : Bool) : Nat × Bool × Int32 × Int32 × Int32 × Int32 × Int32 :=
  let o1 := mOne ch 97 99 s w
  let o2 := mOne ch 94 95 o1.1 o1.2
  let n3 := mNum ch 0 11 o2.1 o2.2
  let d4 := mNeed ch 58 n3.2.1 n3.2.2
  let n5 := mNum ch 0 23 d4.1 d4.2
  let d6 := mNeed ch 61 n5.2.1 n5.2.2
  let n7 := mNum ch 1 999999 d6.1 d6.2
  (n7.2.1, n7.2.2, ch s - 97, ch o1.1 - 94, n3.1, n5.1, n7.1)
theorem velP_le {p : Nat → Int32} {l s : Nat} {w : Bool} (hs : s ≤ l) : (velP (chr p l) s w).1 ≤ l := by
  unfold velP
  refine mNum_le ?_
  have h1 : (mNeed (chr p l) 58 (mNum (chr p l) 0 11 s w).2.1 (mNum (chr p l) 0 11 s w).2.2).1 ≤ l := mNeed_le (by decide) (mNum_le hs)
  split
  · rename_i h
    unfold negV at h
    rw [decide_eq_true_iff] at h
    exact chr_ne h.2 (by decide)
  · exact h1
theorem dyeP_le {p : Nat → Int32} {l s : Nat} {w : Bool} (hs : s ≤ l) : (dyeP (chr p l) s w).1 ≤ l :=
  mNum_le (mNeed_le (by decide) (mNum_le (mNeed_le (by decide) (mNum_le (mOne_le (by decide) (mOne_le (by decide) hs))))))
