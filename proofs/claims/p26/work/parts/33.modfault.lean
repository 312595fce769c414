/-! texts: a step and the whole text, as the reference reads them -/
def stepP (ch : Nat → Int32) (s : Nat) : Nat × Bool × List Int32 :=
  if ch s = 116 then ((mNum ch 1 999 (s + 1) false).2.1, (mNum ch 1 999 (s + 1) false).2.2, [116, (mNum ch 1 999 (s + 1) false).1])
  else if ch s = 118 then ((velP ch (s + 1) false).1, (velP ch (s + 1) false).2.1, [118, (velP ch (s + 1) false).2.2.1, (velP ch (s + 1) false).2.2.2])
  else if ch s = 100 then ((dyeP ch (s + 1) false).1, (dyeP ch (s + 1) false).2.1, [100, (dyeP ch (s + 1) false).2.2.1, (dyeP ch (s + 1) false).2.2.2.1, (dyeP ch (s + 1) false).2.2.2.2.1, (dyeP ch (s + 1) false).2.2.2.2.2.1, (dyeP ch (s + 1) false).2.2.2.2.2.2])
  else (s, true, [])
theorem mOne_w (ch : Nat → Int32) (lo hi : Int32) (s : Nat) : mOne ch lo hi s true = (s, true) := if_pos (Or.inl rfl)
theorem mNeed_w (ch : Nat → Int32) (c : Int32) (s : Nat) : mNeed ch c s true = (s, true) := if_pos (Or.inl rfl)
theorem mNum_w (ch : Nat → Int32) (lo hi : Int32) (s : Nat) : mNum ch lo hi s true = (0, s, true) := if_pos (Or.inl rfl)
theorem dyeP_w (ch : Nat → Int32) (s : Nat) : (dyeP ch s true).1 = s ∧ (dyeP ch s true).2.1 = true := by
  have e : dyeP ch s true = (s, true, ch s - 97, ch s - 94, 0, 0, 0) := by
    unfold dyeP
    simp only [mOne_w, mNeed_w, mNum_w]
  rw [e]
  exact ⟨rfl, rfl⟩
def txtP (ch : Nat → Int32) : Nat → Nat → Nat × Bool × List (List Int32)
  | 0, s => (s, true, [])
  | f + 1, s => if (stepP ch s).2.1 = false ∧ ch (stepP ch s).1 = 44 then ((txtP ch f ((stepP ch s).1 + 1)).1, (txtP ch f ((stepP ch s).1 + 1)).2.1, (stepP ch s).2.2 :: (txtP ch f ((stepP ch s).1 + 1)).2.2) else ((stepP ch s).1, (stepP ch s).2.1, [(stepP ch s).2.2])
def fauP (ch : Nat → Int32) (l : Nat) : Int32 := if (txtP ch 21 0).2.1 = true ∨ (txtP ch 21 0).1 < l then nI (txtP ch 21 0).1 else -6
def STP (f : Nat → Int32) (Ls : List (List Int32)) : Prop := ∀ (i : Nat) (L : List Int32), Ls[i]? = some L → L.length ≤ 6 ∧ ∀ j, j < L.length → f (6 * i + j) = L.getD j 0
theorem STP_app {f : Nat → Int32} {Ls : List (List Int32)} {L : List Int32} (h : STP f Ls) (h6 : L.length ≤ 6) (h2 : ∀ j, j < L.length → f (6 * Ls.length + j) = L.getD j 0) : STP f (Ls ++ [L]) := by
  intro i L' hi
  rw [List.getElem?_append] at hi
  by_cases q : i < Ls.length
  · rw [if_pos q] at hi
    exact h i L' hi
  · rw [if_neg q] at hi
    by_cases q2 : i - Ls.length = 0
    · rw [q2] at hi
      have e : L = L' := by simpa using hi
      rw [← e]
      rw [show i = Ls.length by omega]
      exact ⟨h6, h2⟩
    · rw [show i - Ls.length = (i - Ls.length - 1) + 1 by omega] at hi
      exact absurd hi (by simp)
theorem numL_ge {ch : Nat → Int32} {m : Int32} : ∀ (f : Nat) (v : Int32) (s : Nat), s ≤ (numL ch m f v s).2
  | 0, v, s => Nat.le_refl s
  | f + 1, v, s => by
    by_cases q : 0 < v ∧ (48 ≤ ch s ∧ ch s ≤ 57) ∧ 10 * v + ch s - 48 ≤ m
    · rw [show numL ch m (f + 1) v s = numL ch m f (10 * v + ch s - 48) (s + 1) from if_pos q]
      have := numL_ge (ch := ch) (m := m) f (10 * v + ch s - 48) (s + 1)
      omega
    · rw [show numL ch m (f + 1) v s = (v, s) from if_neg q]
      exact Nat.le_refl s
theorem mNum_ge {ch : Nat → Int32} {lo hi : Int32} {s : Nat} {w : Bool} : s ≤ (mNum ch lo hi s w).2.1 ∧ ((mNum ch lo hi s w).2.2 = false → s < (mNum ch lo hi s w).2.1) := by
  unfold mNum
  by_cases h : w = true ∨ ¬ (48 + (if 0 < lo then 1 else 0) ≤ ch s ∧ ch s ≤ 57)
  · rw [if_pos h]
    exact ⟨Nat.le_refl s, fun q => absurd (show true = false from q) (by decide)⟩
  · rw [if_neg h]
    have := numL_ge (ch := ch) (m := hi) 61 (ch s - 48) (s + 1)
    exact ⟨by show s ≤ (numL ch hi 61 (ch s - 48) (s + 1)).2; omega, fun _ => this⟩
theorem mNeed_ge {ch : Nat → Int32} {c : Int32} {s : Nat} {w : Bool} : s ≤ (mNeed ch c s w).1 := by
  unfold mNeed
  split
  · exact Nat.le_refl s
  · exact Nat.le_succ s
theorem mOne_ge {ch : Nat → Int32} {lo hi : Int32} {s : Nat} {w : Bool} : s ≤ (mOne ch lo hi s w).1 := by
  unfold mOne
  split
  · exact Nat.le_refl s
  · exact Nat.le_succ s
theorem velP_ge {ch : Nat → Int32} {s : Nat} {w : Bool} : s ≤ (velP ch s w).1 ∧ ((velP ch s w).2.1 = false → s < (velP ch s w).1) := by
  have h1 := (mNum_ge (ch := ch) (lo := 0) (hi := 11) (s := s) (w := w)).1
  have h2 := mNeed_ge (ch := ch) (c := 58) (s := (mNum ch 0 11 s w).2.1) (w := (mNum ch 0 11 s w).2.2)
  have h3 := mNum_ge (ch := ch) (lo := 0) (hi := 1500) (s := (if negV ch (mNeed ch 58 (mNum ch 0 11 s w).2.1 (mNum ch 0 11 s w).2.2) = true then (mNeed ch 58 (mNum ch 0 11 s w).2.1 (mNum ch 0 11 s w).2.2).1 + 1 else (mNeed ch 58 (mNum ch 0 11 s w).2.1 (mNum ch 0 11 s w).2.2).1)) (w := (mNeed ch 58 (mNum ch 0 11 s w).2.1 (mNum ch 0 11 s w).2.2).2)
  have h4 : s ≤ (if negV ch (mNeed ch 58 (mNum ch 0 11 s w).2.1 (mNum ch 0 11 s w).2.2) = true then (mNeed ch 58 (mNum ch 0 11 s w).2.1 (mNum ch 0 11 s w).2.2).1 + 1 else (mNeed ch 58 (mNum ch 0 11 s w).2.1 (mNum ch 0 11 s w).2.2).1) := by split <;> omega
  exact ⟨Nat.le_trans h4 h3.1, fun q => Nat.lt_of_le_of_lt h4 (h3.2 q)⟩
theorem dyeP_ge {ch : Nat → Int32} {s : Nat} {w : Bool} : s ≤ (dyeP ch s w).1 ∧ ((dyeP ch s w).2.1 = false → s < (dyeP ch s w).1) := by
  have h1 := Nat.le_trans (mOne_ge (ch := ch) (lo := 97) (hi := 99) (s := s) (w := w)) (mOne_ge (ch := ch) (lo := 94) (hi := 95) (w := (mOne ch 97 99 s w).2))
  generalize e1 : mOne ch 94 95 (mOne ch 97 99 s w).1 (mOne ch 97 99 s w).2 = y1 at h1
  have h2 := Nat.le_trans (Nat.le_trans h1 (mNum_ge (ch := ch) (lo := 0) (hi := 11) (w := y1.2)).1) (mNeed_ge (ch := ch) (c := 58) (w := (mNum ch 0 11 y1.1 y1.2).2.2))
  generalize e2 : mNeed ch 58 (mNum ch 0 11 y1.1 y1.2).2.1 (mNum ch 0 11 y1.1 y1.2).2.2 = y2 at h2
  have h3 := Nat.le_trans (Nat.le_trans h2 (mNum_ge (ch := ch) (lo := 0) (hi := 23) (w := y2.2)).1) (mNeed_ge (ch := ch) (c := 61) (w := (mNum ch 0 23 y2.1 y2.2).2.2))
  generalize e3 : mNeed ch 61 (mNum ch 0 23 y2.1 y2.2).2.1 (mNum ch 0 23 y2.1 y2.2).2.2 = y3 at h3
  have h4 := mNum_ge (ch := ch) (lo := 1) (hi := 999999) (s := y3.1) (w := y3.2)
  have e : (dyeP ch s w).1 = (mNum ch 1 999999 y3.1 y3.2).2.1 := by rw [← e3, ← e2, ← e1]; rfl
  have e' : (dyeP ch s w).2.1 = (mNum ch 1 999999 y3.1 y3.2).2.2 := by rw [← e3, ← e2, ← e1]; rfl
  rw [e, e']
  exact ⟨Nat.le_trans h3 h4.1, fun q => Nat.lt_of_le_of_lt h3 (h4.2 q)⟩
theorem stepP_ge {ch : Nat → Int32} {s : Nat} (h : (stepP ch s).2.1 = false) : s + 2 ≤ (stepP ch s).1 := by
  by_cases h1 : ch s = 116
  · rw [show stepP ch s = _ from if_pos h1] at h ⊢
    exact mNum_ge.2 h
  · by_cases h2 : ch s = 118
    · rw [show stepP ch s = _ from (if_neg h1).trans (if_pos h2)] at h ⊢
      exact velP_ge.2 h
    · by_cases h3 : ch s = 100
      · rw [show stepP ch s = _ from (if_neg h1).trans ((if_neg h2).trans (if_pos h3))] at h ⊢
        exact dyeP_ge.2 h
      · rw [show stepP ch s = _ from (if_neg h1).trans ((if_neg h2).trans (if_neg h3))] at h
        exact absurd (show true = false from h) (by decide)
theorem stepP_len {ch : Nat → Int32} {s : Nat} : (stepP ch s).2.2.length ≤ 6 := by
  by_cases h1 : ch s = 116
  · rw [show stepP ch s = _ from if_pos h1]
    exact Nat.le_of_ble_eq_true rfl
  · by_cases h2 : ch s = 118
    · rw [show stepP ch s = _ from (if_neg h1).trans (if_pos h2)]
      exact Nat.le_of_ble_eq_true rfl
    · by_cases h3 : ch s = 100
      · rw [show stepP ch s = _ from (if_neg h1).trans ((if_neg h2).trans (if_pos h3))]
        exact Nat.le_of_ble_eq_true rfl
      · rw [show stepP ch s = _ from (if_neg h1).trans ((if_neg h2).trans (if_neg h3))]
        exact Nat.le_of_ble_eq_true rfl
theorem stepP_le {p : Nat → Int32} {l s : Nat} (hs : s ≤ l) : (stepP (chr p l) s).1 ≤ l := by
  by_cases h1 : chr p l s = 116
  · rw [show stepP (chr p l) s = _ from if_pos h1]
    exact mNum_le (chr_ne h1 (by decide))
  · by_cases h2 : chr p l s = 118
    · rw [show stepP (chr p l) s = _ from (if_neg h1).trans (if_pos h2)]
      exact velP_le (chr_ne h2 (by decide))
    · by_cases h3 : chr p l s = 100
      · rw [show stepP (chr p l) s = _ from (if_neg h1).trans ((if_neg h2).trans (if_pos h3))]
        exact dyeP_le (chr_ne h3 (by decide))
      · rw [show stepP (chr p l) s = _ from (if_neg h1).trans ((if_neg h2).trans (if_neg h3))]
        exact hs
