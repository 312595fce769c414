/-! what a row is asked, at places that there are -/
section READS
variable {a : rw} {n r c L s m b mk : Nat} {pm : Int32}
theorem in_rg (hr : r < n) (hn : n ≤ 12) : 0 ≤ nI r ∧ nI r ≤ nI n - 1 := (rngP (by omega) (by omega)).mpr ⟨r, hr, rfl⟩
theorem rd_vel (hr : r < n) (hn : n ≤ 12) : ringW a n (nI r) 0 = vel (aP a) r := by
  rw [ringW, if_pos (in_rg hr hn), if_pos rfl, nI_clamp (by omega)]
theorem rd_mom (hr : r < n) (hn : n ≤ 12) : ringW a n (nI r) 1 = aP a r := by
  rw [ringW, if_pos (in_rg hr hn), if_neg (by decide), if_pos rfl, nI_clamp (by omega)]
  rfl
theorem rd_ang (hr : r < n) (hn : n ≤ 12) : ringW a n (nI r) 2 = aA a r := by
  rw [ringW, if_pos (in_rg hr hn), if_neg (by decide), if_neg (by decide), if_pos rfl, nI_clamp (by omega)]
  rfl
theorem rd_psh (hr : r < n) (hn : n ≤ 12) : ringW a n (nI r) 3 = psh (aS a) (aP a) r := by
  rw [ringW, if_pos (in_rg hr hn), if_neg (by decide), if_neg (by decide), if_neg (by decide), if_pos rfl, nI_clamp (by omega)]
theorem rd_sum (hr : r < n) (hn : n ≤ 12) (hc : c < 3) : ringW a n (nI r) (4 + nI c) = ringS (aD a c) r := by
  rcases (show c = 0 ∨ c = 1 ∨ c = 2 by omega) with rfl | rfl | rfl
  · rw [ringW, if_pos (in_rg hr hn), if_neg (by decide), if_neg (by decide), if_neg (by decide), if_neg (by decide), if_pos (by decide), nI_clamp (by omega)]
  · rw [ringW, if_pos (in_rg hr hn), if_neg (by decide), if_neg (by decide), if_neg (by decide), if_neg (by decide), if_neg (by decide), if_pos (by decide), nI_clamp (by omega)]
  · rw [ringW, if_pos (in_rg hr hn), if_neg (by decide), if_neg (by decide), if_neg (by decide), if_neg (by decide), if_neg (by decide), if_neg (by decide), if_pos (by decide), nI_clamp (by omega)]
theorem st_1 : staW a n pm 1 = a 0 := by rw [staW, if_neg (by decide), if_neg (by decide), if_pos rfl]
theorem st_2 : staW a n pm 2 = a 33 := by rw [staW, if_neg (by decide), if_neg (by decide), if_neg (by decide), if_pos rfl]
theorem st_3 : staW a n pm 3 = sm (aP a) n := by rw [staW, if_neg (by decide), if_neg (by decide), if_neg (by decide), if_neg (by decide), if_pos rfl]
theorem st_4 : staW a n pm 4 = mxf (fun r => absI (vel (aP a) r - vel (aP a) (r + 1))) (n - 1) := by rw [staW, if_neg (by decide), if_neg (by decide), if_neg (by decide), if_neg (by decide), if_neg (by decide), if_pos rfl]
theorem st_5 : staW a n pm 5 = pm := by rw [staW, if_neg (by decide), if_neg (by decide), if_neg (by decide), if_neg (by decide), if_neg (by decide), if_neg (by decide), if_pos rfl]
theorem st_s (hj : s < 7) : staW a n pm (6 + nI s) = aS a s := by
  rcases (show s = 0 ∨ s = 1 ∨ s = 2 ∨ s = 3 ∨ s = 4 ∨ s = 5 ∨ s = 6 by omega) with rfl | rfl | rfl | rfl | rfl | rfl | rfl <;> (rw [staW, if_pos (by decide)]; rfl)
theorem in_mk (hm : m < mk) (hk : mk ≤ 6) : 0 ≤ nI m ∧ nI m ≤ nI mk - 1 := (rngP (by omega) (by omega)).mpr ⟨m, hm, rfl⟩
theorem wh_0 (hm : m < mk) (hk : mk ≤ 6) : whereW a mk (nI m) 0 = a (34 + 104 * m) := by rw [whereW, if_pos (in_mk hm hk), if_pos rfl, nI_clamp (by omega)]
theorem wh_1 (hm : m < mk) (hk : mk ≤ 6) : whereW a mk (nI m) 1 = a (34 + 104 * m + 1) := by rw [whereW, if_pos (in_mk hm hk), if_neg (by decide), if_pos rfl, nI_clamp (by omega)]
theorem wh_2 (hm : m < mk) (hk : mk ≤ 6) : whereW a mk (nI m) 2 = a (34 + 104 * m) / 1000 := by rw [whereW, if_pos (in_mk hm hk), if_neg (by decide), if_neg (by decide), if_pos rfl, nI_clamp (by omega)]
theorem wh_3 (hm : m < mk) (hk : mk ≤ 6) {g : Nat} (hg : a (36 + 104 * m) = nI g) (hg2 : g < 2 ^ 30) : whereW a mk (nI m) 3 = nI (kepN g) := by
  rw [whereW, if_pos (in_mk hm hk), if_neg (by decide), if_neg (by decide), if_neg (by decide), if_pos rfl, nI_clamp (by omega), hg]
  unfold kepN
  by_cases h : g < 50
  · rw [if_pos h, if_pos]
    show nI g < nI 50
    exact (nI_ltI (by omega) (by omega)).mpr h
  · rw [if_neg h, if_neg]
    · rfl
    · exact fun q => h ((nI_ltI (b := 50) (by omega) (by omega)).mp q)
theorem pa_at (hm : m < mk) (hk : mk ≤ 6) {g : Nat} (hg : a (36 + 104 * m) = nI g) (hg2 : g < 2 ^ 30) (hb : b < kepN g) {w : Nat} (hw : w < 2) : pathW a mk (nI m) (nI b) (nI w) = a (38 + 104 * m + 2 * ((g - 1 - b) % 50) + w) := by
  have hkp : kepN g ≤ 50 := by unfold kepN; split <;> omega
  rw [pathW, if_pos (in_mk hm hk), if_pos (by rcases (show w = 0 ∨ w = 1 by omega) with rfl | rfl <;> decide), nI_clamp (by omega), hg, nI_clamp (by omega), if_pos ((rngP (by omega) (by omega)).mpr ⟨b, hb, rfl⟩), nI_clamp (by omega), nI_clamp (by omega)]
theorem isPl_in (hc : c < 3) (hL : L < 2) (hr : r < n) (hn : n ≤ 12) (hs : s < 24) : isPl n (nI c) (nI L) (nI r) (nI s) := by
  refine ⟨?_, ?_, in_rg hr hn, ?_⟩
  · rcases (show c = 0 ∨ c = 1 ∨ c = 2 by omega) with rfl | rfl | rfl <;> decide
  · rcases (show L = 0 ∨ L = 1 by omega) with rfl | rfl <;> decide
  · have e := nI_toInt (n := s) (by omega)
    constructor
    · rw [Int32.le_iff_toInt_le, e, Int32.toInt_zero]; omega
    · rw [Int32.le_iff_toInt_le, e, show (23 : Int32).toInt = 23 by decide]; omega
theorem rd_dye (hc : c < 3) (hL : L < 2) (hr : r < n) (hn : n ≤ 12) (hs : s < 24) : dyeW a n (nI c) (nI L) (nI r) (nI s) = aD a c (rwi L r + cel a r (nI s)) := by
  rw [dyeW, if_pos (isPl_in hc hL hr hn hs), nI_clamp (by omega), nI_clamp (by omega), nI_clamp (by omega)]
  exact congrArg a (by unfold dix; omega)
theorem in_c (hc : c < 3) : 0 ≤ nI c ∧ nI c ≤ 2 := by
  rcases (show c = 0 ∨ c = 1 ∨ c = 2 by omega) with rfl | rfl | rfl <;> decide
theorem cw_0 (hc : c < 3) : colW a n (nI c) 0 = (allA (aD a c) n).toInt64 := by rw [colW, if_pos (in_c hc), if_pos rfl, nI_clamp (by omega)]
theorem cw_1 (hc : c < 3) : colW a n (nI c) 1 = (sm (rowS (aD a c) 0) n).toInt64 := by rw [colW, if_pos (in_c hc), if_neg (by decide), if_pos rfl, nI_clamp (by omega)]
theorem cw_2 (hc : c < 3) : colW a n (nI c) 2 = (cnf (aD a c) 576).toInt64 := by rw [colW, if_pos (in_c hc), if_neg (by decide), if_neg (by decide), if_pos rfl, nI_clamp (by omega)]
theorem cw_3 (hc : c < 3) : colW a n (nI c) 3 = (mxf (aD a c) 576).toInt64 := by rw [colW, if_pos (in_c hc), if_neg (by decide), if_neg (by decide), if_neg (by decide), if_pos rfl, nI_clamp (by omega)]
theorem cw_4 (hc : c < 3) : colW a n (nI c) 4 = meanP (aD a c) n (allA (aD a c) n) := by rw [colW, if_pos (in_c hc), if_neg (by decide), if_neg (by decide), if_neg (by decide), if_neg (by decide), if_pos rfl, nI_clamp (by omega)]
theorem cw_5 (hc : c < 3) : colW a n (nI c) 5 = unev (aD a c) n (allA (aD a c) n).toInt64 := by rw [colW, if_pos (in_c hc), if_neg (by decide), if_neg (by decide), if_neg (by decide), if_neg (by decide), if_neg (by decide), if_pos rfl, nI_clamp (by omega)]
end READS
/-! the law's numbers of a run: its time, and that the last kept place is where a marker is -/
def LST (a : rw) : Prop := ∀ m, m < rK a → ∀ g : Nat, g < 2 ^ 30 → 1 ≤ g → a (36 + 104 * m) = nI g → a (38 + 104 * m + 2 * ((g - 1) % 50)) = a (34 + 104 * m)
def Lw (a : rw) (t : Nat) : Prop := a 1 = nI t ∧ LST a
theorem Lw.up {a b : rw} {t : Nat} (h : Lw a t) (hk : rK a ≤ 6) (he : ∀ k, (k = 1 ∨ 33 ≤ k ∧ k < 658) → b k = a k) : Lw b t := by
  refine ⟨(he 1 (Or.inl rfl)).trans h.1, fun m hm g hg h1 e => ?_⟩
  have ek : rK b = rK a := by unfold rK; rw [he 33 (Or.inr (by omega))]
  rw [ek] at hm
  have := Nat.mod_lt (g - 1) (show 50 > 0 by omega)
  rw [he _ (Or.inr (by omega))] at e ⊢
  rw [he _ (Or.inr (by omega))]
  exact h.2 m hm g hg h1 e
theorem Lw.marker {a : rw} {t : Nat} (h : Lw a t) (hk : rK a < 6) (p g0 : Int32) : Lw (upd (upd (upd (upd (upd a (34 + 104 * rK a) p) (34 + 104 * rK a + 1) g0) (34 + 104 * rK a + 2) 0) (34 + 104 * rK a + 3) 0) 33 (nI (rK a + 1))) t := by
  have low : ∀ k, (k < 33 ∨ 33 < k ∧ k < 34 + 104 * rK a ∨ 34 + 104 * rK a + 4 ≤ k) → upd (upd (upd (upd (upd a (34 + 104 * rK a) p) (34 + 104 * rK a + 1) g0) (34 + 104 * rK a + 2) 0) (34 + 104 * rK a + 3) 0) 33 (nI (rK a + 1)) k = a k := fun k hk => by
    unfold upd
    rw [if_neg (by omega), if_neg (by omega), if_neg (by omega), if_neg (by omega), if_neg (by omega)]
  have eK : rK (upd (upd (upd (upd (upd a (34 + 104 * rK a) p) (34 + 104 * rK a + 1) g0) (34 + 104 * rK a + 2) 0) (34 + 104 * rK a + 3) 0) 33 (nI (rK a + 1))) = rK a + 1 := by
    have : ∀ f : rw, f 33 = nI (rK a + 1) → rK f = rK a + 1 := fun f e => by
      show (f 33).toNatClampNeg = _
      rw [e]
      exact nI_clamp (by omega)
    exact this _ (if_pos rfl)
  have e36 : upd (upd (upd (upd (upd a (34 + 104 * rK a) p) (34 + 104 * rK a + 1) g0) (34 + 104 * rK a + 2) 0) (34 + 104 * rK a + 3) 0) 33 (nI (rK a + 1)) (36 + 104 * rK a) = 0 := by
    unfold upd
    rw [if_neg (by omega), if_neg (by omega), if_pos (by omega)]
  refine ⟨(low 1 (Or.inl (by omega))).trans h.1, fun m hm g hg h1 e => ?_⟩
  rw [eK] at hm
  have := Nat.mod_lt (g - 1) (show 50 > 0 by omega)
  by_cases hmk : m = rK a
  · rw [hmk, e36] at e
    have e2 := congrArg Int32.toInt e
    rw [nI_toInt (by omega), Int32.toInt_zero] at e2
    omega
  · rw [low _ (by omega)] at e ⊢
    rw [low _ (by omega)]
    exact h.2 m (by omega) g hg h1 e
