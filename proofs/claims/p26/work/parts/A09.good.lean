/-! calls that are taken -/
theorem c_in {x : Int32} {lo hi : Int} (l h : Int32) (el : l.toInt = lo) (eh : h.toInt = hi) (h1 : lo ≤ x.toInt) (h2 : x.toInt ≤ hi) : l ≤ x ∧ x ≤ h := ⟨Int32.le_iff_toInt_le.mpr (by omega), Int32.le_iff_toInt_le.mpr (by omega)⟩
theorem n_in {k : Nat} (lo hi : Nat) (h : lo ≤ k ∧ k ≤ hi) (h2 : hi < 2 ^ 31 := by decide) : nI lo ≤ nI k ∧ nI k ≤ nI hi := ⟨(nI_leI (by omega) (by omega)).mpr h.1, (nI_leI (by omega) (by omega)).mpr h.2⟩
section GOOD
variable {μ : zM} {a : rw} {S : Nat → Option rw} {l : Nat}
theorem g_set (h : OK μ a S l) {j : Nat} (hj : j < 7) {v : Int32} (hv : takesP (nI j) v) : zCs yX3_set prog_1_method_3_code 4 (some .int) 2 [zR (0, 0, 0), zI (nI j), zI v] μ (fun μ' _ => OK μ' (upd a (2 + j) v) S l) := zCt.imp (o_set h (nI j) v) (fun μ' r ⟨w, e, q⟩ => ⟨w, e, by
  rcases q with ⟨i, hi, ei, _, _, ho⟩ | q
  · have : i = j := by
      have := congrArg Int32.toInt ei
      rw [nI_toInt (by omega), nI_toInt (by omega)] at this
      omega
    rw [← this]
    exact ho
  · exact absurd hv q.1⟩)
theorem nI_inj {i j : Nat} (hi : i < 2 ^ 31) (hj : j < 2 ^ 31) (e : nI i = nI j) : i = j := by
  have := congrArg Int32.toInt e
  rw [nI_toInt hi, nI_toInt hj] at this
  omega
theorem g_spin (h : OK μ a S l) {r : Nat} (hr : r < rN a) {v : Int32} (hv : -1500 ≤ v ∧ v ≤ 1500) : zCs yX3_spin prog_1_method_4_code 4 (some .int) 3 [zR (0, 0, 0), zI (nI r), zI v] μ (fun μ' w => w = vel (aP a) r ∧ OK μ' (upd a (9 + r) (v * nI (2 * r + 1))) S l) := zCt.imp (o_spin h (nI r) v) (fun μ' x ⟨w, e, q⟩ => ⟨w, e, by
  have h12 := (Full_n h.2.1).2
  rcases q with ⟨i, hi, ei, _, ew, ho⟩ | ⟨q | q, _⟩
  · have := nI_inj (by omega) (by omega) ei
    subst this
    exact ⟨ew, ho⟩
  · exact absurd ⟨r, hr, rfl⟩ q.1
  · exact absurd hv q.2.1⟩)
theorem g_spinAll (h : OK μ a S l) {x y : Int32} (hx : -1500 ≤ x ∧ x ≤ 1500) (hy : -1500 ≤ y ∧ y ≤ 1500) : zCs yX3_spinAll prog_1_method_5_code 3 (some .int) 4 [zR (0, 0, 0), zI x, zI y] μ (fun μ' w => w = sm (aP (rg 9 12 (fun j => if j < rN a then gvl x y (rN a) j else aP a j) a)) (rN a) ∧ OK μ' (rg 9 12 (fun j => if j < rN a then gvl x y (rN a) j else aP a j) a) S l) := zCt.imp (o_spinAll h x y) (fun μ' r ⟨w, e, q⟩ => ⟨w, e, by
  rcases q with q | q
  · exact q.2.2
  · exact absurd ⟨hx, hy⟩ q.1⟩)
theorem g_pour (h : OK μ a S l) {c L r s M : Nat} (hc : c < 3) (hL : L < 2) (hr : r < rN a) (hs : s < 24) (hM : 1 ≤ M ∧ M ≤ 50000) (hT : (allA (aD a c) (rN a)).toInt ≤ 9900000) : zCs yX3_pour prog_1_method_6_code 6 (some .int) 4 [zR (0, 0, 0), zI (nI c), zI (nI L), zI (nI r), zI (nI s), zI (nI M)] μ (fun μ' w => w = allA (aD a c) (rN a) + nI M ∧ OK μ' (upd a (dix c L r (cel a r (nI s))) (a (dix c L r (cel a r (nI s))) + nI M)) S l) := zCt.imp (o_pour h (nI c) (nI L) (nI r) (nI s) (nI M)) (fun μ' x ⟨w, e, q⟩ => ⟨w, e, by
  have h12 := (Full_n h.2.1).2
  have hp := isPl_in hc hL hr h12 hs
  have hm : (1 : Int32) ≤ nI M ∧ nI M ≤ 1000000 := n_in 1 1000000 (by omega)
  have h0 := (Full_Gd h.2.1).1.2.2 c hc
  rcases q with q | q | q
  · exact absurd hp q.1
  · exact absurd hm q.2.1
  · obtain ⟨_, _, c', L', r', k1, k2, k3, k4, k5, k6, q⟩ := q
    have e1 := nI_inj (by omega) (by omega) k4
    have e2 := nI_inj (by omega) (by omega) k5
    have e3 := nI_inj (by omega) (by omega) k6
    subst e1 e2 e3
    rcases q with q | q
    · refine absurd ?_ q.1
      rw [Int32.le_iff_toInt_le, Int32.toInt_add, nI_toInt (by omega), show (10000000 : Int32).toInt = 10000000 by decide, Int.bmod_eq_of_le (by omega) (by omega)]
      omega
    · exact q.2⟩)
theorem g_tick (h : OK μ a S l) {t M : Nat} (ht : a 1 = nI t) (hM : 1 ≤ M ∧ M ≤ 1000) (htM : t + M ≤ 100000) : zCs yX3_tick prog_1_method_7_code 3 (some .int) 6 [zR (0, 0, 0), zI (nI M)] μ (fun μ' w => w = nI (t + M) ∧ OK μ' (itF M a) S l) := zCt.imp (o_tick h (nI M)) (fun μ' x ⟨w, e, q⟩ => ⟨w, e, by
  have hm : (1 : Int32) ≤ nI M ∧ nI M ≤ 1000 := n_in 1 1000 (by omega)
  have hs : a 1 + nI M ≤ 100000 := by
    rw [ht, nI_add]
    exact (n_in (k := t + M) 0 100000 (by omega)).2
  rcases q with q | q | q
  · exact absurd hm q.1
  · exact absurd hs q.2.1
  · obtain ⟨_, _, i, hi, ei, ew, ho⟩ := q
    have := nI_inj (by omega) (by omega) ei
    subst this
    exact ⟨by rw [ew, it_time ht], ho⟩⟩)
theorem g_marker (h : OK μ a S l) {p g : Nat} (hp : p < 1000 * rN a) (hg : g < 3600) : zCs yX3_marker prog_1_method_12_code 4 (some .int) 2 [zR (0, 0, 0), zI (nI p), zI (nI g)] μ (fun μ' w => (rK a = 6 ∧ w = -4 ∧ μ' = μ) ∨ (rK a < 6 ∧ w = nI (rK a) ∧ OK μ' (upd (upd (upd (upd (upd a (34 + 104 * rK a) (nI p)) (34 + 104 * rK a + 1) (nI g)) (34 + 104 * rK a + 2) 0) (34 + 104 * rK a + 3) 0) 33 (nI (rK a + 1))) S l)) := zCt.imp (o_marker h (nI p) (nI g)) (fun μ' x ⟨w, e, q⟩ => ⟨w, e, by
  have h12 := (Full_n h.2.1).2
  have e1 : 1000 * nI (rN a) = nI (1000 * rN a) := (pk_mul 1000 (rN a))
  have hin : (0 ≤ nI p ∧ nI p ≤ 1000 * nI (rN a) - 1) ∧ (0 ≤ nI g ∧ nI g ≤ 3599) := by
    refine ⟨?_, n_in 0 3599 (by omega)⟩
    rw [e1]
    exact (rngP (by omega) (by omega)).mpr ⟨p, hp, rfl⟩
  rcases q with q | q | q
  · exact absurd hin q.1
  · exact Or.inl q.2
  · exact Or.inr q.2⟩)
theorem g_save (h : OK μ a S l) {i : Nat} (hi : i < 2) : zCs yX3_save prog_1_method_25_code 2 (some .int) 3 [zR (0, 0, 0), zI (nI i)] μ (fun μ' w => w = a 1 ∧ OK μ' a (putS S i a) l) := zCt.imp (o_save h (nI i)) (fun μ' x ⟨w, e, q⟩ => ⟨w, e, by
  have hm : (0 : Int32) ≤ nI i ∧ nI i ≤ 1 := n_in 0 1 (by omega)
  rcases q with q | ⟨_, j, hj, ej, q⟩
  · exact absurd hm q.1
  · have := nI_inj (by omega) (by omega) ej
    subst this
    exact q⟩)
theorem g_restore (h : OK μ a S l) {i : Nat} (hi : i < 2) {b : rw} (hb : S i = some b) : zCs yX3_restore prog_1_method_26_code 2 (some .int) 3 [zR (0, 0, 0), zI (nI i)] μ (fun μ' w => w = b 1 ∧ OK μ' b S l) := zCt.imp (o_restore h (nI i)) (fun μ' x ⟨w, e, q⟩ => ⟨w, e, by
  have hm : (0 : Int32) ≤ nI i ∧ nI i ≤ 1 := n_in 0 1 (by omega)
  rcases q with q | ⟨_, j, hj, ej, q⟩
  · exact absurd hm q.1
  · have := nI_inj (by omega) (by omega) ej
    subst this
    rcases q with q | ⟨b', hb', q⟩
    · rw [hb] at q
      cases q.1
    · rw [hb] at hb'
      cases hb'
      exact q⟩)
theorem g_setUp (h : OK μ a S l) {n : Nat} (hn : 2 ≤ n ∧ n ≤ 12) : zCs yX3_setUp prog_1_method_2_code 3 (some .int) 3 [zR (0, 0, 0), zI (nI n)] μ (fun μ' w => w = a 0 ∧ OK μ' (beg (nI n)) S l) := zCt.imp (o_setUp h (nI n)) (fun μ' x ⟨w, e, q⟩ => ⟨w, e, by
  have hm : (2 : Int32) ≤ nI n ∧ nI n ≤ 12 := n_in 2 12 (by omega)
  rcases q with q | q
  · exact q.2
  · exact absurd hm q.1⟩)
theorem g_settles (h : OK μ a S l) {b M : Nat} (hb : b ≤ 1000) (hM : 1 ≤ M ∧ M ≤ 1000) : zCs yX3_settles prog_1_method_15_code 4 (some .int) 5 [zR (0, 0, 0), zI (nI b), zI (nI M)] μ (fun μ' w => FST (fun k => settB (itF k a) (rN a) (nI b)) M w ∧ OK μ' a S l) := zCt.imp (o_settles h (nI b) (nI M)) (fun μ' x ⟨w, e, q⟩ => ⟨w, e, by
  rcases q with q | ⟨_, i, hi, ei, q⟩
  · exact absurd ⟨n_in 0 1000 (by omega), n_in 1 1000 (by omega)⟩ q.1
  · have := nI_inj (by omega) (by omega) ei
    subst this
    exact q⟩)
theorem g_arrives (h : OK μ a S l) {c r s M : Nat} (hc : c < 3) (hr : r < rN a) (hs : 1 ≤ s ∧ s ≤ 1000) (hM : 1 ≤ M ∧ M ≤ 500) : zCs yX3_arrives prog_1_method_16_code 8 (some .int) 5 [zR (0, 0, 0), zI (nI c), zI (nI r), zI (nI s), zI (nI M)] μ (fun μ' w => OK μ' a S l ∧ ((allA (aD a c) (rN a) = 0 ∧ w = -5) ∨ (¬ allA (aD a c) (rN a) = 0 ∧ FST (fun k => partB (itF k a) (rN a) c r (nI s)) M w))) := zCt.imp (o_arrives h (nI c) (nI r) (nI s) (nI M)) (fun μ' x ⟨w, e, q⟩ => ⟨w, e, by
  have h12 := (Full_n h.2.1).2
  have h1 : (0 ≤ nI c ∧ nI c ≤ 2) ∧ (0 ≤ nI r ∧ nI r ≤ nI (rN a) - 1) := ⟨in_c hc, in_rg hr h12⟩
  have h2 : (1 ≤ nI s ∧ nI s ≤ 1000) ∧ (1 ≤ nI M ∧ nI M ≤ 500) := ⟨n_in 1 1000 (by omega), n_in 1 500 (by omega)⟩
  rcases q with q | q | ⟨_, _, c', r', M', k1, k2, k3, k4, k5, k6, q⟩
  · exact absurd h1 q.1
  · exact absurd h2 q.2.1
  · have e1 := nI_inj (by omega) (by omega) k4
    have e2 := nI_inj (by omega) (by omega) k5
    have e3 := nI_inj (by omega) (by omega) k6
    subst e1 e2 e3
    rcases q with q | q
    · exact ⟨by rw [q.2.2]; exact h, Or.inl ⟨q.1, q.2.1⟩⟩
    · exact ⟨q.2.2, Or.inr ⟨q.1, q.2.1⟩⟩⟩)
theorem g_meet (h : OK μ a S l) {i j b M : Nat} (hi : i < rK a) (hj : j < rK a) (hb : b ≤ 1800) (hM : 1 ≤ M ∧ M ≤ 1000) : zCs yX3_meet prog_1_method_17_code 6 (some .int) 5 [zR (0, 0, 0), zI (nI i), zI (nI j), zI (nI b), zI (nI M)] μ (fun μ' w => FST (fun k => nearB (itF k a) i j (nI b)) M w ∧ OK μ' a S l) := zCt.imp (o_meet h (nI i) (nI j) (nI b) (nI M)) (fun μ' x ⟨w, e, q⟩ => ⟨w, e, by
  have hk := (Full_K h.2.1).2
  rcases q with q | q | ⟨_, _, i', j', M', k1, k2, k3, k4, k5, k6, q⟩
  · exact absurd ⟨in_mk hi hk, in_mk hj hk⟩ q.1
  · exact absurd ⟨n_in 0 1800 (by omega), n_in 1 1000 (by omega)⟩ q.2.1
  · have e1 := nI_inj (by omega) (by omega) k4
    have e2 := nI_inj (by omega) (by omega) k5
    have e3 := nI_inj (by omega) (by omega) k6
    subst e1 e2 e3
    exact q⟩)
theorem g_leastEkman (h : OK μ a S l) {c p T : Nat} (hc : c < 3) (hp : p ≤ 11000) (hT : 1 ≤ T ∧ T ≤ 50) : zCs yX3_leastEkman prog_1_method_18_code 5 (some .int) 6 [zR (0, 0, 0), zI (nI c), zI (nI p), zI (nI T)] μ (fun μ' w => OK μ' a S l ∧ ((allA (aD a c) (rN a) = 0 ∧ w = -5) ∨ (¬ allA (aD a c) (rN a) = 0 ∧ FST (ekmB a (rN a) c T (nI p)) 200 w))) := zCt.imp (o_leastEkman h (nI c) (nI p) (nI T)) (fun μ' x ⟨w, e, q⟩ => ⟨w, e, by
  rcases q with q | q | ⟨_, _, c', T', k1, k2, k4, k5, q⟩
  · exact absurd (in_c hc) q.1
  · exact absurd ⟨n_in 0 11000 (by omega), n_in 1 50 (by omega)⟩ q.2.1
  · have e1 := nI_inj (by omega) (by omega) k4
    have e2 := nI_inj (by omega) (by omega) k5
    subst e1 e2
    rcases q with q | q
    · exact ⟨by rw [q.2.2]; exact h, Or.inl ⟨q.1, q.2.1⟩⟩
    · exact ⟨q.2.2, Or.inr ⟨q.1, q.2.1⟩⟩⟩)
end GOOD
