theorem rg2_congr2 {f g : Nat → Nat → Int32} {a : Nat → Int32} (h : ∀ c, c < 3 → ∀ i, i < 576 → f c i = g c i) : rg2 f a = rg2 g a := by
  funext k
  unfold rg2
  by_cases h2 : 658 ≤ k ∧ k < 2386
  · rw [if_pos h2, if_pos h2, h _ (by omega) _ (by omega)]
  · rw [if_neg h2, if_neg h2]
theorem rg2_rg2 (f g : Nat → Nat → Int32) (a : Nat → Int32) : rg2 g (rg2 f a) = rg2 g a := by
  funext k
  unfold rg2
  by_cases h2 : 658 ≤ k ∧ k < 2386
  · rw [if_pos h2, if_pos h2]
  · rw [if_neg h2, if_neg h2, if_neg h2]
theorem mixF_congr {m : Int32} {n : Nat} {f g : Nat → Int32} (hn : n ≤ 288) (h : ∀ i, i < 576 → f i = g i) : ∀ i, i < 576 → mixF m n f i = mixF m n g i := by
  intro i hi
  unfold mixF
  by_cases h1 : i < n
  · rw [if_pos h1, if_pos h1, h i hi, h (288 + i) (by omega)]
  · rw [if_neg h1, if_neg h1]
    by_cases h2 : 288 ≤ i ∧ i < 288 + n
    · rw [if_pos h2, if_pos h2, h i hi, h (i - 288) (by omega)]
    · rw [if_neg h2, if_neg h2, h i hi]
theorem aD_rg2 {f : Nat → Nat → Int32} {a : Nat → Int32} {c i : Nat} (hc : c < 3) (hi : i < 576) : aD (rg2 f a) c i = f c i := by
  show rg2 f a (658 + 576 * c + i) = _
  rw [Nat.add_assoc, rg2_at hc hi]
/-- the row behind steps 1 and 2, and behind 3 and 4 -/
def turnA (n : Nat) (a : Nat → Int32) : Nat → Int32 := rg 21 12 (ang (aS a) (aP a) (aA a) n) (rg 9 12 (mom (aS a) (aP a) n) a)
def dyeA (n : Nat) (a : Nat → Int32) : Nat → Int32 := rg2 (fun c => mixF (a 8) (24 * n) (dyf (aD a c) (aA a) n (psh (aS a) (aP a)))) a
def MC (a a' : Nat → Int32) (w : Nat) : Prop := a' w = plN a w ∧ a' (w + 1) = anN a w ∧ a' (w + 2) = a (w + 2) + 1 ∧ a' (w + 3) = (if plN a w / 1000 = a w / 1000 then a (w + 3) else a (w + 3) + 1) ∧ a' (w + 4 + 2 * ((a (w + 2)).toNatClampNeg % 50)) = plN a w ∧ a' (w + 5 + 2 * ((a (w + 2)).toNatClampNeg % 50)) = anN a w ∧ (∀ j, j < 50 → j ≠ (a (w + 2)).toNatClampNeg % 50 → a' (w + 4 + 2 * j) = a (w + 4 + 2 * j) ∧ a' (w + 5 + 2 * j) = a (w + 5 + 2 * j))
theorem MC_congr {a b a' b' : Nat → Int32} {w : Nat} (h : MC a a' w) (hr : rgo (a w) < 12) (ha : ∀ k, (k < 21 ∨ (w ≤ k ∧ k < w + 104)) → b k = a k) (hb : ∀ k, w ≤ k → k < w + 104 → b' k = a' k) : MC b b' w := by
  have e0 : b w = a w := ha w (by omega)
  have e1 : b (w + 1) = a (w + 1) := ha _ (by omega)
  have e2 : b (w + 2) = a (w + 2) := ha _ (by omega)
  have e3 : b (w + 3) = a (w + 3) := ha _ (by omega)
  have ep : plN b w = plN a w := by
    unfold plN psh vel aS aP
    rw [e0, ha 0 (by omega), ha _ (by omega), ha _ (by omega), ha _ (by omega)]
  have en : anN b w = anN a w := by
    unfold anN vel aP
    rw [e0, e1, ha _ (by omega)]
  have h50 : (a (w + 2)).toNatClampNeg % 50 < 50 := Nat.mod_lt _ (by omega)
  obtain ⟨h0, h1, h2, h3, h4, h5, h6⟩ := h
  unfold MC
  rw [ep, en, e0, e2, e3, hb w (by omega) (by omega), hb (w + 1) (by omega) (by omega), hb (w + 2) (by omega) (by omega), hb (w + 3) (by omega) (by omega), hb _ (by omega) (by omega), hb (w + 5 + _) (by omega) (by omega)]
  refine ⟨h0, h1, h2, h3, h4, h5, fun j hj hne => ?_⟩
  rw [hb _ (by omega) (by omega), hb (w + 5 + 2 * j) (by omega) (by omega), ha _ (by omega), ha (w + 5 + 2 * j) (by omega)]
  exact h6 j hj hne
/-- a tick of the row -/
def TKR (n mk : Nat) (a a' : Nat → Int32) : Prop := (∀ m, m < mk → MC (dyeA n (turnA n a)) a' (34 + 104 * m)) ∧ a' 1 = a 1 + 1 ∧ ∀ k, k ≠ 1 → (k < 34 ∨ 34 + 104 * mk ≤ k) → a' k = dyeA n (turnA n a) k
theorem turnA_lo {n : Nat} {a : Nat → Int32} {k : Nat} (h : k < 9 ∨ 33 ≤ k) : turnA n a k = a k := by
  unfold turnA
  rw [rg_out (by omega), rg_out (by omega)]
theorem dyeA_lo {n : Nat} {a : Nat → Int32} {k : Nat} (h : k < 658) : dyeA n a k = a k := rg2_out h
theorem aS_turn {n : Nat} {a : Nat → Int32} {j : Nat} (h : j < 7) : aS (turnA n a) j = aS a j := turnA_lo (by omega)
