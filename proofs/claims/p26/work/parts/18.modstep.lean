/-! a stretch of the row replaced -/
def rg (lo len : Nat) (f a : Nat → Int32) (k : Nat) : Int32 := if lo ≤ k ∧ k < lo + len then f (k - lo) else a k
theorem rg_in {lo len : Nat} {f a : Nat → Int32} {i : Nat} (h : i < len) : rg lo len f a (lo + i) = f i := by
  unfold rg
  rw [if_pos (by omega), Nat.add_sub_cancel_left]
theorem rg_out {lo len : Nat} {f a : Nat → Int32} {k : Nat} (h : k < lo ∨ lo + len ≤ k) : rg lo len f a k = a k := if_neg (by omega)
theorem rg_upd {lo len : Nat} {f a : Nat → Int32} {i : Nat} {x : Int32} (h : i < len) : upd (rg lo len f a) (lo + i) x = rg lo len (upd f i x) a := by
  funext k
  unfold upd rg
  by_cases e : k = lo + i
  · subst e
    rw [if_pos rfl, if_pos (by omega), Nat.add_sub_cancel_left]
    exact (if_pos rfl).symm
  · rw [if_neg e]
    by_cases h2 : lo ≤ k ∧ k < lo + len
    · rw [if_pos h2, if_pos h2]
      exact (if_neg (by omega)).symm
    · rw [if_neg h2, if_neg h2]
theorem rg_self {lo len : Nat} {f a : Nat → Int32} (h : ∀ i, i < len → f i = a (lo + i)) : rg lo len f a = a := by
  funext k
  unfold rg
  by_cases h2 : lo ≤ k ∧ k < lo + len
  · rw [if_pos h2, h _ (by omega)]
    congr 1
    omega
  · rw [if_neg h2]
theorem rg_congr {lo len : Nat} {f g a : Nat → Int32} (h : ∀ i, i < len → f i = g i) : rg lo len f a = rg lo len g a := by
  funext k
  unfold rg
  by_cases h2 : lo ≤ k ∧ k < lo + len
  · rw [if_pos h2, if_pos h2, h _ (by omega)]
  · rw [if_neg h2, if_neg h2]
def momE (S P : Nat → Int32) (n i j : Nat) : Int32 := if j < i then P j + inn S P j - out S P n j + fri S P j else if j = i ∧ i < n then P j + inn S P j else P j
theorem momE_0 (S P : Nat → Int32) {n : Nat} (hn : 0 < n) : momE S P n 0 = P := by
  funext j
  unfold momE
  rw [if_neg (by omega)]
  by_cases h : j = 0 ∧ 0 < n
  · rw [if_pos h]
    unfold inn
    rw [if_pos h.1, Int32.add_zero]
  · rw [if_neg h]
theorem momE_s1 (S P : Nat → Int32) {n i : Nat} (hi : i + 1 < n) : upd (upd (upd (momE S P n i) i (momE S P n i i - mv S P i)) (i + 1) (upd (momE S P n i) i (momE S P n i i - mv S P i) (i + 1) + mv S P i)) i (upd (upd (momE S P n i) i (momE S P n i i - mv S P i)) (i + 1) (upd (momE S P n i) i (momE S P n i i - mv S P i) (i + 1) + mv S P i) i + fri S P i) = momE S P n (i + 1) := by
  funext j
  unfold upd
  by_cases h1 : j = i
  · subst h1
    rw [if_pos rfl, if_neg (by omega), if_pos rfl]
    unfold momE out
    rw [if_neg (by omega), if_pos (by omega), if_pos (by omega), if_pos hi]
  · rw [if_neg h1]
    by_cases h2 : j = i + 1
    · subst h2
      rw [if_pos rfl, if_neg (by omega)]
      unfold momE inn
      rw [if_neg (by omega), if_neg (by omega), if_neg (by omega), if_pos (by omega), if_neg (by omega), Nat.add_sub_cancel]
    · rw [if_neg h2, if_neg h1]
      unfold momE
      by_cases h3 : j < i
      · rw [if_pos h3, if_pos (by omega)]
      · rw [if_neg h3, if_neg (by omega), if_neg (by omega), if_neg (by omega)]
theorem momE_s2 (S P : Nat → Int32) {n i : Nat} (hi : i + 1 = n) : upd (momE S P n i) i (momE S P n i i + fri S P i) = momE S P n (i + 1) := by
  funext j
  unfold upd
  by_cases h1 : j = i
  · subst h1
    rw [if_pos rfl]
    unfold momE out
    rw [if_neg (by omega), if_pos (by omega), if_pos (by omega), if_neg (by omega), Int32.sub_zero]
  · rw [if_neg h1]
    unfold momE
    by_cases h3 : j < i
    · rw [if_pos h3, if_pos (by omega)]
    · rw [if_neg h3, if_neg (by omega), if_neg (by omega), if_neg (by omega)]
theorem momE_n (S P : Nat → Int32) {n : Nat} (hn : 2 ≤ n) : upd (momE S P n n) (n - 1) (momE S P n n (n - 1) + S 1 * (S 2 - vel P (n - 1)) / 100) = mom S P n := by
  funext j
  unfold upd mom momE
  by_cases h1 : j = n - 1
  · subst h1
    rw [if_pos rfl, if_pos (by omega), if_pos (by omega)]
    unfold wal
    rw [if_pos (by omega), Int32.add_assoc, Int32.add_comm (fri S P (n - 1)), ← Int32.add_assoc]
  · rw [if_neg h1]
    by_cases h2 : j < n
    · rw [if_pos h2, if_pos h2]
      unfold wal
      rw [if_neg (by omega), Int32.add_zero]
    · rw [if_neg h2, if_neg h2, if_neg (by omega)]
