/-! sums in longs, the greatest, the unevenness, the steepest -/
theorem smZ_split (g : Nat → Int) (a : Nat) : ∀ b, smZ g (a + b) = smZ g a + smZ (fun j => g (a + j)) b
  | 0 => by simp [smZ]
  | b + 1 => by
    rw [← Nat.add_assoc, smZ, smZ_split g a b, smZ]
    show _ + _ + g (a + b) = _
    omega
theorem smZ_blocks (g : Nat → Int) : ∀ n, smZ (fun r => smZ (fun j => g (24 * r + j)) 24) n = smZ g (24 * n)
  | 0 => rfl
  | n + 1 => by
    rw [smZ, smZ_blocks g n, show 24 * (n + 1) = 24 * n + 24 by omega, smZ_split g (24 * n) 24]
theorem smZ_const (c : Int) : ∀ n : Nat, smZ (fun _ => c) n = n * c
  | 0 => by simp [smZ]
  | n + 1 => by
    rw [smZ, smZ_const c n]
    have : ((n + 1 : Nat) : Int) = n + 1 := by omega
    rw [this, Int.add_mul, Int.one_mul]
theorem smZ_mul (g : Nat → Int) (c : Int) : ∀ n : Nat, smZ (fun k => g k * c) n = smZ g n * c
  | 0 => by simp [smZ]
  | n + 1 => by
    rw [smZ, smZ_mul g c n, smZ, Int.add_mul]
theorem row_int {n : Nat} (hn : n ≤ 12) {f : Nat → Int32} (h : DI n f) {L r : Nat} (hL : L < 2) (hr : r < n) : (rowS f L r).toInt = smZ (fun j => (f (rwi L r + j)).toInt) 24 ∧ 0 ≤ (rowS f L r).toInt ∧ (rowS f L r).toInt ≤ 240000000 := by
  have hb : ∀ j, j < 24 → 0 ≤ (f (rwi L r + j)).toInt ∧ (f (rwi L r + j)).toInt ≤ 10000000 := fun j hj => by
    have hi : rwi L r + j < 576 := by unfold rwi; omega
    exact ⟨h.1 _ hi, DI_le hn h hi⟩
  have h2 := smZ_le (f := fun j => (f (rwi L r + j)).toInt) (g := fun _ => 10000000) 24 (fun j hj => (hb j hj).2)
  rw [smZ_const] at h2
  have h3 := smZ_nn (f := fun j => (f (rwi L r + j)).toInt) 24 (fun j hj => (hb j hj).1)
  have e := sm_int (g := fun j => f (rwi L r + j)) 24 (fun j hj => (hb j hj).1) (by omega)
  have e2 : (rowS f L r).toInt = smZ (fun j => (f (rwi L r + j)).toInt) 24 := e
  omega
theorem top_eq {n : Nat} (hn : n ≤ 12) {f : Nat → Int32} (h : DI n f) : sml (fun r => (rowS f 0 r).toInt64) n = (sm (rowS f 0) n).toInt64 := by
  refine sml_sm n (fun r hr => (row_int hn h (by omega) hr).2.1) ?_
  rw [smZ_congr (f := fun r => (rowS f 0 r).toInt) (g := fun r => smZ (fun j => (f (24 * r + j)).toInt) 24) n (fun r hr => by
    rw [(row_int hn h (show 0 < 2 by omega) hr).1]
    exact smZ_congr 24 (fun j hj => by rw [show rwi 0 r + j = 24 * r + j by unfold rwi; omega])), smZ_blocks (fun i => (f i).toInt)]
  have h1 : smZ (fun k => (f k).toInt) (24 * n) + smZ (fun k => (f (288 + k)).toInt) (24 * n) ≤ 10000000 := h.2.2
  have h2 := smZ_nn (f := fun k => (f (288 + k)).toInt) (24 * n) (fun k hk => h.1 _ (by omega))
  omega
theorem sml_z (g : Nat → Int64) (a : Nat) : ∀ b, (∀ k, k < b → g (a + k) = 0) → sml g (a + b) = sml g a
  | 0, _ => rfl
  | b + 1, h => by
    rw [← Nat.add_assoc, sml, sml_z g a b (fun k hk => h k (by omega)), h b (by omega), Int64.add_zero]
/-- a ring's part of the top -/
def tpK (a : rw) (f : Nat → Int32) (r k : Nat) : Int64 := if k < 24 then (dK a f r k).toInt64 else 0
theorem tpK_48 (a : rw) {n : Nat} (hn : n ≤ 12) {f : Nat → Int32} (h : DI n f) {r : Nat} (hr : r < n) : sml (tpK a f r) 48 = (rowS f 0 r).toInt64 := by
  have hb : ∀ k, k < 24 → 0 ≤ (dK a f r k).toInt ∧ (dK a f r k).toInt ≤ 10000000 := fun k hk => ⟨h.1 _ (dK_ix a (by omega) (by omega)), DI_le hn h (dK_ix a (by omega) (by omega))⟩
  have h2 := smZ_le (f := fun j => (dK a f r j).toInt) (g := fun _ => 10000000) 24 (fun j hj => (hb j hj).2)
  rw [smZ_const] at h2
  rw [show (48 : Nat) = 24 + 24 from rfl, sml_z (tpK a f r) 24 24 (fun k hk => if_neg (by omega)), sml_congr (f := tpK a f r) (g := fun k => (dK a f r k).toInt64) 24 (fun k hk => if_pos hk), sml_sm 24 (fun k hk => (hb k hk).1) (by omega), (dK_sum a f r).1]
/-! the greatest -/
theorem mxf_nn (f : Nat → Int32) : ∀ n, 0 ≤ (mxf f n).toInt
  | 0 => by simp [mxf]
  | n + 1 => by
    have ih := mxf_nn f n
    rw [mxf]
    split
    · next h => rw [Int32.lt_iff_toInt_lt] at h; omega
    · exact ih
theorem mxf_ub (f : Nat → Int32) : ∀ n i, i < n → (f i).toInt ≤ (mxf f n).toInt
  | n + 1, i, hi => by
    rw [mxf]
    by_cases e : i = n
    · subst e
      split
      · exact Int.le_refl _
      · next h => rw [Int32.lt_iff_toInt_lt] at h; omega
    · have ih := mxf_ub f n i (by omega)
      split
      · next h => rw [Int32.lt_iff_toInt_lt] at h; omega
      · exact ih
theorem mxf_at (f : Nat → Int32) : ∀ n, mxf f n = 0 ∨ ∃ i, i < n ∧ f i = mxf f n
  | 0 => Or.inl rfl
  | n + 1 => by
    rw [mxf]
    split
    · exact Or.inr ⟨n, by omega, rfl⟩
    · rcases mxf_at f n with h | ⟨i, hi, h⟩
      · exact Or.inl h
      · exact Or.inr ⟨i, by omega, h⟩
def seen (r k r' j : Nat) : Prop := r' < r ∧ j < 48 ∨ r' = r ∧ j < k
/-- the greatest of the cells looked at -/
def MX (a : rw) (f : Nat → Int32) (r k : Nat) (m : Int64) : Prop := 0 ≤ m.toInt ∧ (∀ r' j, seen r k r' j → (dK a f r' j).toInt ≤ m.toInt) ∧ (m.toInt = 0 ∨ ∃ r' j, seen r k r' j ∧ (dK a f r' j).toInt = m.toInt)
theorem MX_0 (a : rw) (f : Nat → Int32) : MX a f 0 0 0 := ⟨by decide, fun r' j h => by unfold seen at h; omega, Or.inl (by decide)⟩
theorem MX_r {a : rw} {f : Nat → Int32} {r : Nat} {m : Int64} (h : MX a f r 48 m) : MX a f (r + 1) 0 m := by
  obtain ⟨h1, h2, h3⟩ := h
  refine ⟨h1, fun r' j hs => h2 r' j (by unfold seen at hs ⊢; omega), h3.imp id (fun ⟨r', j, hs, e⟩ => ⟨r', j, by unfold seen at hs ⊢; omega, e⟩)⟩
theorem MX_s {a : rw} {f : Nat → Int32} {r k : Nat} {m : Int64} (h : MX a f r k m) : MX a f r (k + 1) (if lg_cmp (dK a f r k).toInt64 m ≤ 0 then m else (dK a f r k).toInt64) := by
  obtain ⟨h1, h2, h3⟩ := h
  have hs : ∀ r' j, seen r (k + 1) r' j → seen r k r' j ∨ r' = r ∧ j = k := fun r' j hs => by unfold seen at hs ⊢; omega
  by_cases hc : lg_cmp (dK a f r k).toInt64 m ≤ 0
  · rw [if_pos hc]
    have h4 := Int64.le_iff_toInt_le.mp ((lg_cmp_le _ _).mp hc)
    rw [Int32.toInt_toInt64] at h4
    refine ⟨h1, fun r' j q => ?_, h3.imp id (fun ⟨r', j, q, e⟩ => ⟨r', j, by unfold seen at q ⊢; omega, e⟩)⟩
    rcases hs r' j q with q | ⟨rfl, rfl⟩
    · exact h2 r' j q
    · exact h4
  · rw [if_neg hc]
    have h4 : m.toInt < (dK a f r k).toInt := by
      have := (fun q => hc ((lg_cmp_le _ _).mpr q))
      have h5 := Int64.lt_iff_toInt_lt.mp (Int64.not_le.mp this)
      rwa [Int32.toInt_toInt64] at h5
    refine ⟨by rw [Int32.toInt_toInt64]; omega, fun r' j q => ?_, Or.inr ⟨r, k, by unfold seen; omega, by rw [Int32.toInt_toInt64]⟩⟩
    rw [Int32.toInt_toInt64]
    rcases hs r' j q with q | ⟨rfl, rfl⟩
    · have := h2 r' j q; omega
    · exact Int.le_refl _
theorem MX_end {a : rw} {f : Nat → Int32} {n : Nat} (hn : n ≤ 12) (hD : DI n f) {m : Int64} (h : MX a f n 0 m) : (mxf f 576).toInt64 = m := by
  obtain ⟨h1, h2, h3⟩ := h
  apply i64_eq
  rw [Int32.toInt_toInt64]
  have g1 : (mxf f 576).toInt ≤ m.toInt := by
    rcases mxf_at f 576 with e | ⟨i, hi, e⟩
    · rw [e, Int32.toInt_zero]; exact h1
    · by_cases hin : inR n i
      · obtain ⟨r, k, hr, hk, e2⟩ := dK_on a f hn hin
        rw [← e, ← e2]
        exact h2 r k (Or.inl ⟨hr, hk⟩)
      · rw [← e, hD.2.1 i hi hin, Int32.toInt_zero]; exact h1
  have g2 : m.toInt ≤ (mxf f 576).toInt := by
    rcases h3 with e | ⟨r, k, hs, e⟩
    · rw [e]; exact mxf_nn f 576
    · rw [← e]
      have hs2 : r < n ∧ k < 48 := by unfold seen at hs; omega
      exact mxf_ub f 576 _ (dK_ix a (by omega) hs2.2)
  omega
/-! the steepest step between rings -/
theorem steep_s {M d : Int32} (hM : 0 ≤ M.toInt) (hd : -2000000 ≤ d.toInt ∧ d.toInt ≤ 2000000) {x y : Int32} (hx : d = x - y) (hxy : (y - x).toInt = -d.toInt) : (if d ≤ M then (if -d ≤ M then M else -d) else d) = (if M < absI (y - x) then absI (y - x) else M) := by
  have e1 : (-d).toInt = -d.toInt := by rw [Int32.toInt_neg, Int.bmod_eq_of_le (by omega) (by omega)]
  have ea : (absI (y - x)).toInt = if 0 ≤ -d.toInt then -d.toInt else d.toInt := by
    unfold absI
    by_cases h : (0 : Int32) ≤ y - x
    · rw [if_pos h, hxy, if_pos (by rw [Int32.le_iff_toInt_le, Int32.toInt_zero, hxy] at h; exact h)]
    · rw [if_neg h, Int32.toInt_sub, hxy, Int32.toInt_zero, if_neg (by rw [Int32.le_iff_toInt_le, Int32.toInt_zero, hxy] at h; exact h), Int.bmod_eq_of_le (by omega) (by omega)]
      omega
  apply i32_eq
  simp only [Int32.le_iff_toInt_le, Int32.lt_iff_toInt_lt, ea, e1]
  repeat' split
  all_goals simp only [e1, ea] at *
  all_goals first | omega | (split <;> omega)
