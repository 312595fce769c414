/-! met() of the law -/
theorem near_sym {a : rw} {i j : Nat} {b : Int32} {x y : Nat} (hx : x < 3600) (hy : y < 3600) (ei : a (34 + 104 * i + 1) = nI x) (ej : a (34 + 104 * j + 1) = nI y) : nearB a i j b = nearB a j i b := by
  have hab : absI (nI x - nI y) = absI (nI y - nI x) := by
    have e1 : (nI x - nI y).toInt = x - y := by rw [Int32.toInt_sub, nI_toInt (by omega), nI_toInt (by omega), Int.bmod_eq_of_le (by omega) (by omega)]
    have e2 : (nI y - nI x).toInt = y - x := by rw [Int32.toInt_sub, nI_toInt (by omega), nI_toInt (by omega), Int.bmod_eq_of_le (by omega) (by omega)]
    unfold absI
    rw [Int32.le_iff_toInt_le, Int32.le_iff_toInt_le, e1, e2, Int32.toInt_zero]
    by_cases h : (x : Int) = y
    · rw [if_pos (by omega), if_pos (by omega)]
      exact i32_eq (by omega)
    · by_cases h2 : (0 : Int) ≤ x - y
      · rw [if_pos h2, if_neg (by omega)]
        grind
      · rw [if_neg h2, if_pos (by omega)]
        grind
  unfold nearB
  rw [ei, ej, ← far_eq hx hy, ← far_eq hy hx, hab]
  exact decide_eq_decide.mpr ⟨fun h => ⟨h.1.symm, h.2⟩, fun h => ⟨h.1.symm, h.2⟩⟩
theorem near_self {a : rw} {i : Nat} {b : Nat} (hb : b < 2 ^ 31) {x : Nat} (hx : x < 3600) (ei : a (34 + 104 * i + 1) = nI x) : nearB a i i (nI b) = true := by
  unfold nearB
  rw [ei, ← far_eq hx hx, decide_eq_true_iff]
  refine ⟨rfl, ?_⟩
  have e1 : nI x - nI x = 0 := by grind
  rw [e1, show (if 3600 - absI 0 < absI 0 then 3600 - absI 0 else absI 0) = 0 by decide]
  exact nI_pos' hb
theorem FST_zero {h : Nat → Bool} {M : Nat} {w : Int32} (hf : FST h M w) (h0 : h 0 = true) : w = 0 := by
  rcases hf with ⟨k, hk, ht, hl, ew⟩ | ⟨hl, ew⟩
  · cases k with
    | zero => exact ew
    | succ k => rw [hl 0 (by omega)] at h0; cases h0
  · rw [hl 0 (by omega)] at h0; cases h0
theorem FST_congr {h h' : Nat → Bool} {M : Nat} {w : Int32} (hf : FST h M w) (e : ∀ k, k ≤ M → h k = h' k) : FST h' M w := by
  rcases hf with ⟨k, hk, ht, hl, ew⟩ | ⟨hl, ew⟩
  · exact Or.inl ⟨k, hk, by rw [← e k hk]; exact ht, fun j hj => by rw [← e j (by omega)]; exact hl j hj, ew⟩
  · exact Or.inr ⟨fun j hj => by rw [← e j hj]; exact hl j hj, ew⟩
theorem it_near {a : rw} (h : Full a) {i j : Nat} (hi : i < rK a) (hj : j < rK a) (b : Int32) (k : Nat) : nearB (itF k a) i j b = nearB (itF k a) j i b := by
  obtain ⟨t, ht, h1, hI, hG, _⟩ := h
  have hGk := IG_it hG k
  obtain ⟨x, hx, ex⟩ := hGk i (by rw [it_K]; exact hi)
  obtain ⟨y, hy, ey⟩ := hGk j (by rw [it_K]; exact hj)
  exact near_sym hx hy ex ey
/-- the law's nearness -/
theorem near_law {x y b : Nat} (hx : x < 3600) (hy : y < 3600) (hb : b ≤ 1800) {d : Int32} (hd : d = absI (nI x - nI y)) : farI (nI x) (nI y) ≤ nI b ↔ (d ≤ nI b ∨ 3600 - d ≤ nI b) := by
  rw [← far_eq hx hy, ← hd]
  by_cases h : 3600 - d < d
  · rw [if_pos h]
    refine ⟨fun z => Or.inr z, fun z => ?_⟩
    rcases z with z | z
    · exact Int32.le_trans (Int32.le_of_lt h) z
    · exact z
  · rw [if_neg h]
    refine ⟨fun z => Or.inl z, fun z => ?_⟩
    rcases z with z | z
    · exact z
    · exact Int32.le_trans (Int32.not_lt.mp h) z
