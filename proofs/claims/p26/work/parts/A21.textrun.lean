/-! the text's steps -/
theorem doA_t {a : rw} {t T : Nat} (h1 : a 1 = nI t) (hT : 1 ≤ T ∧ T ≤ 9) (ht : t + T ≤ 100000) : doA a [116, nI T] = (true, itF T a) := by
  unfold doA
  show (if (116 : Int32) = 116 then (if (1 ≤ nI T ∧ nI T ≤ 1000) ∧ a 1 + nI T ≤ 100000 then (true, itF (nI T).toNatClampNeg a) else (false, a)) else _) = _
  rw [if_pos rfl, if_pos ⟨n_in 1 1000 (by omega), by rw [h1, nI_add]; exact (n_in (k := t + T) 0 100000 (by omega)).2⟩, nI_clamp (by omega)]
theorem neg_in {V : Nat} (hV : V < 10) : -1500 ≤ -nI V ∧ -nI V ≤ 1500 := by
  have e : (-nI V).toInt = -(V : Int) := by rw [Int32.toInt_neg, nI_toInt (by omega), Int.bmod_eq_of_le (by omega) (by omega)]
  exact ⟨Int32.le_iff_toInt_le.mpr (by rw [e, show (-1500 : Int32).toInt = -1500 by decide]; omega), Int32.le_iff_toInt_le.mpr (by rw [e, show (1500 : Int32).toInt = 1500 by decide]; omega)⟩
theorem doA_v {a : rw} {R V : Nat} (hn : rN a ≤ 12) (hV : V < 10) (hR : R < 10) : doA a [118, nI R, -nI V] = if R < rN a then (true, upd a (9 + R) (-nI V * nI (2 * R + 1))) else (false, a) := by
  unfold doA
  show (if (118 : Int32) = 116 then _ else if (118 : Int32) = 118 then (if (0 ≤ nI R ∧ nI R ≤ nI (rN a) - 1) ∧ (-1500 ≤ -nI V ∧ -nI V ≤ 1500) then (true, upd a (9 + (nI R).toNatClampNeg) (-nI V * nI (2 * (nI R).toNatClampNeg + 1))) else (false, a)) else _) = _
  rw [if_neg (by decide), if_pos rfl, nI_clamp (by omega)]
  by_cases h : R < rN a
  · rw [if_pos h, if_pos ⟨in_rg h hn, neg_in hV⟩]
  · rw [if_neg h, if_neg]
    intro q
    have h0 : 1 ≤ rN a ∨ rN a = 0 := by omega
    rcases h0 with h0 | h0
    · obtain ⟨r, hr, e⟩ := (rngP h0 (by omega)).mp q.1
      have := nI_inj (by omega) (by omega) e
      omega
    · rw [h0] at q
      have e1 := Int32.le_iff_toInt_le.mp q.1.1
      have e2 := Int32.le_iff_toInt_le.mp q.1.2
      rw [show (nI 0 - 1 : Int32).toInt = -1 by decide] at e2
      rw [Int32.toInt_zero] at e1
      omega
theorem doA_d {a : rw} {R : Nat} (hF : Full a) (hR : R < rN a) (hA : (allA (aD a 2) (rN a)).toInt ≤ 9000000) : doA a [100, 2, 1, nI R, 7, 5] = (true, poA a 2 1 R 7 5) := by
  have hn := Full_n hF
  have hp := isPl_in (c := 2) (L := 1) (s := 7) (by omega) (by omega) hR hn.2 (by omega)
  have h0 := (Full_Gd hF).1.2.2 2 (by omega)
  have hle : allA (aD a 2) (rN a) + 5 ≤ 10000000 := by
    rw [Int32.le_iff_toInt_le, Int32.toInt_add, show (5 : Int32).toInt = 5 by decide, show (10000000 : Int32).toInt = 10000000 by decide, Int.bmod_eq_of_le (by omega) (by omega)]
    omega
  have key : doA a [100, nI 2, nI 1, nI R, nI 7, nI 5] = (true, poA a 2 1 R 7 5) := by
    unfold doA
    rw [if_neg (by show ¬ (100 : Int32) = 116; decide), if_neg (by show ¬ (100 : Int32) = 118; decide)]
    show (if isPl (rN a) (nI 2) (nI 1) (nI R) (nI 7) ∧ (1 ≤ nI 5 ∧ nI 5 ≤ 1000000) ∧ allA (aD a (nI 2).toNatClampNeg) (rN a) + nI 5 ≤ 10000000 then (true, upd a (dix (nI 2).toNatClampNeg (nI 1).toNatClampNeg (nI R).toNatClampNeg (cel a (nI R).toNatClampNeg (nI 7))) (a (dix (nI 2).toNatClampNeg (nI 1).toNatClampNeg (nI R).toNatClampNeg (cel a (nI R).toNatClampNeg (nI 7))) + nI 5)) else (false, a)) = _
    rw [nI_clamp (show 2 < 2 ^ 31 by omega), nI_clamp (show 1 < 2 ^ 31 by omega), nI_clamp (show R < 2 ^ 31 by omega), if_pos ⟨hp, n_in 1 1000000 (by omega), hle⟩]
    rfl
  exact key
theorem run_on {a : rw} {t T R V : Nat} (hF : Full a) (h1 : a 1 = nI t) (hT : 1 ≤ T ∧ T ≤ 9) (ht : t + T ≤ 90000) (hR : R < 10) (hV : V < 10) (h : R < rN a) (hA : (allA (aD (upd (itF T a) (9 + R) (-nI V * nI (2 * R + 1))) 2) (rN (upd (itF T a) (9 + R) (-nI V * nI (2 * R + 1))))).toInt ≤ 9000000) (hF2 : Full (upd (itF T a) (9 + R) (-nI V * nI (2 * R + 1)))) : runA [[116, nI T], [118, nI R, -nI V], [100, 2, 1, nI R, 7, 5]] a = (3, poA (upd (itF T a) (9 + R) (-nI V * nI (2 * R + 1))) 2 1 R 7 5) := by
  have hn := Full_n hF
  have hFT := Full_its hF h1 (k := T) (by omega) (by omega)
  have en : rN (itF T a) = rN a := it_N a T
  have en2 : rN (upd (itF T a) (9 + R) (-nI V * nI (2 * R + 1))) = rN a := (rN_up (if_neg (by omega))).trans en
  have e1 := doA_t h1 hT (by omega)
  have e2 := doA_v (a := itF T a) (R := R) (V := V) (by omega) hV hR
  rw [en, if_pos h] at e2
  have e3 := doA_d hF2 (R := R) (by omega) hA
  rw [runA, e1, if_pos rfl, runA, e2, if_pos rfl, runA, e3, if_pos rfl]
  rfl
theorem run_off {a : rw} {t T R V : Nat} (hF : Full a) (h1 : a 1 = nI t) (hT : 1 ≤ T ∧ T ≤ 9) (ht : t + T ≤ 90000) (hR : R < 10) (hV : V < 10) (h : ¬ R < rN a) : runA [[116, nI T], [118, nI R, -nI V], [100, 2, 1, nI R, 7, 5]] a = (1, itF T a) := by
  have hn := Full_n hF
  have en : rN (itF T a) = rN a := it_N a T
  have e1 := doA_t h1 hT (by omega)
  have e2 := doA_v (a := itF T a) (R := R) (V := V) (by omega) hV hR
  rw [en, if_neg h] at e2
  rw [runA, e1, if_pos rfl, runA, e2, if_neg (show ¬ false = true by decide)]
