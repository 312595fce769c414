/-! a tick of the component, over the row -/
theorem cell_le {n : Nat} (hn : n ≤ 12) {f : Nat → Int32} (h : DI n f) {i : Nat} (hi : i < 576) : (f i).toInt ≤ inS n (fun i => (f i).toInt) := by
  obtain ⟨h1, h2, h3⟩ := h
  show (f i).toInt ≤ smZ (fun i => (f i).toInt) (24 * n) + smZ (fun k => (f (288 + k)).toInt) (24 * n)
  have a1 := smZ_nn (f := fun i => (f i).toInt) (24 * n) (fun k hk => h1 k (by omega))
  have a2 := smZ_nn (f := fun k => (f (288 + k)).toInt) (24 * n) (fun k hk => h1 (288 + k) (by omega))
  by_cases q : i < 24 * n
  · have : (f i).toInt ≤ smZ (fun i => (f i).toInt) (24 * n) := smZ_term (f := fun i => (f i).toInt) (24 * n) (fun k hk => h1 k (by omega)) i q
    omega
  · by_cases q2 : 288 ≤ i ∧ i < 288 + 24 * n
    · have e : 288 + (i - 288) = i := by omega
      have : (f (288 + (i - 288))).toInt ≤ smZ (fun k => (f (288 + k)).toInt) (24 * n) := smZ_term (f := fun k => (f (288 + k)).toInt) (24 * n) (fun k hk => h1 (288 + k) (by omega)) (i - 288) (by omega)
      rw [e] at this
      omega
    · rw [h2 i hi (fun w => w.elim q q2), Int32.toInt_zero]
      omega
theorem DI_zero {n : Nat} (hn : n ≤ 12) {f : Nat → Int32} (h : DI n f) (h0 : allA f n = 0) {i : Nat} (hi : i < 576) : f i = 0 := by
  have h1 := (DI_all hn h).2.2
  rw [h0, Int32.toInt_zero] at h1
  have h2 := cell_le hn h hi
  have h3 := h.1 i hi
  exact Int32.toInt_inj.mp (by rw [Int32.toInt_zero]; omega)
theorem zero_tick {n : Nat} (hn : n ≤ 12) {D : Nat → Int32} (A : Nat → Int32) (hD : DI n D) {x : Nat → Int32} (hx : ∀ r, r < n → -500 ≤ (x r).toInt ∧ (x r).toInt ≤ 500) {m : Int32} (hm : 0 ≤ m.toInt ∧ m.toInt ≤ 500) (h0 : allA D n = 0) {i : Nat} (hi : i < 576) : mixF m (24 * n) (dyf D A n x) i = D i := by
  have h1 := tick_DI hn A hD hx hm
  rw [DI_zero hn h1.1 (h1.2.trans h0) hi, DI_zero hn hD h0 hi]
def IB (a : Nat → Int32) : Prop := a 0 = nI (rN a) ∧ 2 ≤ rN a ∧ rN a ≤ 12 ∧ a 33 = nI (rK a) ∧ rK a ≤ 6
def IS (a : Nat → Int32) : Prop := (0 ≤ (aS a 0).toInt ∧ (aS a 0).toInt ≤ 100) ∧ (0 ≤ (aS a 1).toInt ∧ (aS a 1).toInt ≤ 100) ∧ (-1500 ≤ (aS a 2).toInt ∧ (aS a 2).toInt ≤ 1500) ∧ (0 ≤ (aS a 3).toInt ∧ (aS a 3).toInt ≤ 100) ∧ (-1500 ≤ (aS a 4).toInt ∧ (aS a 4).toInt ≤ 1500) ∧ (0 ≤ (aS a 6).toInt ∧ (aS a 6).toInt ≤ 500)
def ID (a : Nat → Int32) : Prop := ∀ c, c < 3 → DI (rN a) (aD a c)
def IM (a : Nat → Int32) (t : Nat) : Prop := ∀ m, m < rK a → ∃ p g, p < 1000 * rN a ∧ g ≤ t ∧ a (34 + 104 * m) = nI p ∧ a (36 + 104 * m) = nI g
theorem tick_N {a : Nat → Int32} : rN (tickF a) = rN a := by unfold rN; rw [tick_0]
theorem tick_K {a : Nat → Int32} : rK (tickF a) = rK a := by unfold rK; rw [tick_33]
theorem tick_allA {a : Nat → Int32} (hB : IB a) (hS : IS a) (hD : ID a) {c : Nat} (hc : c < 3) : allA (aD (tickF a) c) (rN a) = allA (aD a c) (rN a) := by
  rw [allA_congr (fun i hi => tick_D (by have := hB.2.1; omega) hB.2.2.1 hB.2.2.2.2 hc hi) hB.2.2.1]
  exact (tick_DI hB.2.2.1 _ (hD c hc) (fun r _ => psh_b _ _ r) hS.2.2.2.2.2).2
theorem DI_congr {n : Nat} (hn : n ≤ 12) {f g : Nat → Int32} (h : ∀ i, i < 576 → f i = g i) (hg : DI n g) : DI n f := by
  refine ⟨fun i hi => by rw [h i hi]; exact hg.1 i hi, fun i hi ho => by rw [h i hi]; exact hg.2.1 i hi ho, ?_⟩
  rw [inS_congr hn (g := fun i => (g i).toInt) (fun k hk => by rw [h k hk])]
  exact hg.2.2
theorem tick_ID {a : Nat → Int32} (hB : IB a) (hS : IS a) (hD : ID a) : ID (tickF a) := by
  intro c hc
  rw [tick_N]
  exact DI_congr hB.2.2.1 (fun i hi => tick_D (by have := hB.2.1; omega) hB.2.2.1 hB.2.2.2.2 hc hi) (tick_DI hB.2.2.1 _ (hD c hc) (fun r _ => psh_b _ _ r) hS.2.2.2.2.2).1
theorem kp_eq {g : Nat} (hg : g < 2 ^ 30) : kp (nI (kepN g)) = nI (kepN (g + 1)) := by
  unfold kp kepN
  by_cases h : g < 50
  · rw [if_pos h, nI_1]
    by_cases h2 : g + 1 < 50
    · rw [if_pos h2, if_pos (show nI (g + 1) < 50 from (nI_ltI (b := 50) (by omega) (by omega)).mpr h2)]
    · rw [if_neg h2, if_neg (show ¬ nI (g + 1) < 50 from fun q => h2 ((nI_ltI (b := 50) (by omega) (by omega)).mp q))]
      rfl
  · rw [if_neg h, if_neg (show ¬ g + 1 < 50 by omega)]
    rfl
theorem nxt_eq : ∀ k, k < 50 → nxt (nI k) = nI ((k + 1) % 50) := by decide +kernel
theorem mid_pl {a : Nat → Int32} (hB : IB a) {m p : Nat} (hm : m < rK a) (hp : p < 1000 * rN a) (ep : a (34 + 104 * m) = nI p) : plN (midA a) (34 + 104 * m) = mvp (1000 * a 0 - 1) (a (34 + 104 * m)) (psh (aS a) (mom (aS a) (aP a) (rN a)) (p / 1000)) ∧ anN (midA a) (34 + 104 * m) = fmd (a (34 + 104 * m + 1) + vel (mom (aS a) (aP a) (rN a)) (p / 1000)) 3600 := by
  have := hB.2.2.1
  have := hB.2.2.2.2
  have e1 : midA a (34 + 104 * m) = a (34 + 104 * m) := mid_w (by omega)
  have e2 : midA a (34 + 104 * m + 1) = a (34 + 104 * m + 1) := mid_w (by omega)
  have e0 : midA a 0 = a 0 := mid_w (by omega)
  have er : rgo (a (34 + 104 * m)) = p / 1000 := by unfold rgo; rw [ep, nI_clamp (by omega)]
  have hr : p / 1000 < 12 := by omega
  unfold plN anN
  rw [e0, e1, e2, er]
  constructor
  · rw [psh_congr (S := aS (midA a)) (S' := aS a) (f := aP (midA a)) (g := mom (aS a) (aP a) (rN a)) (mid_w (by omega)) (mid_w (by omega)) (mid_P hr)]
  · rw [vel_congr (f := aP (midA a)) (g := mom (aS a) (aP a) (rN a)) (mid_P hr)]
theorem RepM_tick {μ μ1 μ' : zM} {t m : Nat} {a : Nat → Int32} {T : Nat} (hT : T < 2 ^ 29) (hB : IB a) (hM : IM a T) (hm : m < rK a) (h : RepM μ t m a) (h0 : μ1 (5, t, 0) 0 = a 0) (h13 : μ1 (13, t, m) = μ (13, t, m) ∧ μ1 (14, t, m) = μ (14, t, m) ∧ μ1 (15, t, m) = μ (15, t, m)) (h16 : ∀ j, j < rN a → μ1 (16, t, 0) j = vel (mom (aS a) (aP a) (rN a)) j) (h17 : ∀ j, j < rN a → μ1 (17, t, 0) j = psh (aS a) (mom (aS a) (aP a) (rN a)) j) (hMS : MS μ1 μ' t m) : RepM μ' t m (tickF a) := by
  obtain ⟨p, g, hp, hg, ep, eg⟩ := hM m hm
  have hn12 := hB.2.2.1
  have hk6 := hB.2.2.2.2
  obtain ⟨q0, q1, q2, q3, q4, q5⟩ := h
  rw [eg, nI_clamp (by omega)] at q2 q4 q5
  obtain ⟨s0, s1, s2, s3, s4, s5, s6⟩ := hMS
  obtain ⟨w13, w14, w15⟩ := h13
  have hr : p / 1000 < rN a := by omega
  have er : rgo (μ (13, t, m) 0) = p / 1000 := by unfold rgo; rw [q0, ep, nI_clamp (by omega)]
  rw [w13, h0, er, h17 _ hr, q0] at s0
  rw [w13, er, h16 _ hr, q1] at s1
  rw [w13, q2, kp_eq (by omega)] at s2
  rw [w13, h0, er, h17 _ hr, q0, q3] at s3
  rw [w13, q4, nxt_eq _ (Nat.mod_lt _ (by omega))] at s4
  rw [w13, w14, h0, er, h17 _ hr, q0, q4, nI_clamp (by have := Nat.mod_lt g (show 50 > 0 by omega); omega)] at s5
  rw [w13, w15, er, h16 _ hr, q1, q4, nI_clamp (by have := Nat.mod_lt g (show 50 > 0 by omega); omega)] at s6
  obtain ⟨hpl, han⟩ := mid_pl hB hm hp ep
  rw [← hpl] at s0 s3 s5
  rw [← han] at s1 s6
  have b2 : midA a (34 + 104 * m + 2) = nI g := (mid_w (by omega)).trans ((congrArg a (by omega)).trans eg)
  have t2 : tickF a (36 + 104 * m) = nI (g + 1) := by
    rw [show 36 + 104 * m = 34 + 104 * m + 2 by omega, tick_M hm (by omega)]
    show midA a (34 + 104 * m + 2) + 1 = _
    rw [b2]
    exact nI_1 g
  have g50 : g % 50 < 50 := Nat.mod_lt _ (by omega)
  have key : ∀ k, k < 50 → ∀ e : Nat, e < 2 → mkF (midA a) (34 + 104 * m) (4 + 2 * k + e) = if k = g % 50 then (if e = 0 then plN (midA a) (34 + 104 * m) else anN (midA a) (34 + 104 * m)) else midA a (34 + 104 * m + (4 + 2 * k + e)) := by
    intro k hk e he
    unfold mkF
    rw [if_neg (by omega), if_neg (by omega), if_neg (by omega), if_neg (by omega), b2, nI_clamp (by omega), show (4 + 2 * k + e - 4) / 2 = k by omega, show (4 + 2 * k + e) % 2 = e by omega]
  unfold RepM
  rw [t2, nI_clamp (by omega), show tickF a (34 + 104 * m) = mkF (midA a) (34 + 104 * m) 0 from tick_M (j := 0) hm (by omega), tick_M (j := 1) hm (by omega), tick_M (j := 3) hm (by omega)]
  refine ⟨s0, s1, s2, ?_, by rw [s4]; congr 1; omega, fun k hk => ?_⟩
  · rw [s3]
    show _ = (if plN (midA a) (34 + 104 * m) / 1000 = midA a (34 + 104 * m) / 1000 then midA a (34 + 104 * m + 3) else midA a (34 + 104 * m + 3) + 1)
    rw [mid_w (a := a) (k := 34 + 104 * m) (by omega), mid_w (a := a) (k := 34 + 104 * m + 3) (by omega)]
  · have hk50 : k < 50 := by
      unfold kepN at hk
      split at hk <;> omega
    rw [s5, s6, show 38 + 104 * m + 2 * k = 34 + 104 * m + (4 + 2 * k + 0) by omega, show 39 + 104 * m + 2 * k = 34 + 104 * m + (4 + 2 * k + 1) by omega, tick_M hm (by omega), tick_M hm (by omega), key k hk50 0 (by omega), key k hk50 1 (by omega)]
    unfold upd
    by_cases e : k = g % 50
    · rw [if_pos e, if_pos e, if_pos e, if_pos e]
      exact ⟨rfl, rfl⟩
    · have hk2 : k < kepN g := by
        unfold kepN at hk ⊢
        split
        · split at hk <;> omega
        · omega
      obtain ⟨r1, r2⟩ := q5 k hk2
      rw [if_neg e, if_neg e, if_neg e, if_neg e, r1, r2, mid_w (by omega), mid_w (by omega)]
      exact ⟨congrArg a (by omega), congrArg a (by omega)⟩
theorem i_nn {x : Int32} : 0 ≤ x ↔ 0 ≤ x.toInt := by rw [Int32.le_iff_toInt_le, Int32.toInt_zero]
theorem i_pos {x : Int32} : 0 < x ↔ 0 < x.toInt := by rw [Int32.lt_iff_toInt_lt, Int32.toInt_zero]
theorem tick_Rep {μ μ' : zM} {t : Nat} {a : Nat → Int32} {T : Nat} (hT : T < 2 ^ 29) (h : Rep μ t a) (hB : IB a) (hS : IS a) (hD : ID a) (hM : IM a T)
    (ho : zoffK [5, 7, 8, 11, 13, 14, 15, 16, 17, 18] t μ μ') (h5 : μ' (5, t, 0) = upd (μ (5, t, 0)) 1 (μ (5, t, 0) 1 + 1)) (h7 : μ' (7, t, 0) = mom (μ (6, t, 0)) (μ (7, t, 0)) (rN a)) (h8 : μ' (8, t, 0) = ang (μ (6, t, 0)) (μ (7, t, 0)) (μ (8, t, 0)) (rN a))
    (hd : ∀ c, c < 3 → μ' (11, t, c) = dyN (μ (11, t, c)) (ang (μ (6, t, 0)) (μ (7, t, 0)) (μ (8, t, 0)) (rN a)) (μ (6, t, 0)) (psh (μ (6, t, 0)) (mom (μ (6, t, 0)) (μ (7, t, 0)) (rN a))) (rN a) (μ (9, t, 0) c))
    (μ1 : zM) (hMS : ∀ m, m < rK a → MS μ1 μ' t m) (e5 : μ1 (5, t, 0) = μ (5, t, 0)) (e13 : ∀ m, μ1 (13, t, m) = μ (13, t, m) ∧ μ1 (14, t, m) = μ (14, t, m) ∧ μ1 (15, t, m) = μ (15, t, m)) (e16 : ∀ j, j < rN a → μ1 (16, t, 0) j = vel (mom (μ (6, t, 0)) (μ (7, t, 0)) (rN a)) j) (e17 : ∀ j, j < rN a → μ1 (17, t, 0) j = psh (μ (6, t, 0)) (mom (μ (6, t, 0)) (μ (7, t, 0)) (rN a)) j) : Rep μ' t (tickF a) := by
  obtain ⟨⟨g0, g1, g2⟩, gS, gP, gA, gT, gD, gM⟩ := h
  have hn1 : 0 < rN a := by have := hB.2.1; omega
  have hn12 := hB.2.2.1
  have hk6 := hB.2.2.2.2
  have hmom : ∀ r, r < 12 → mom (μ (6, t, 0)) (μ (7, t, 0)) (rN a) r = mom (aS a) (aP a) (rN a) r := fun r hr => mom_congr gS gP hn12 hr
  have hang : ∀ r, r < 12 → ang (μ (6, t, 0)) (μ (7, t, 0)) (μ (8, t, 0)) (rN a) r = ang (aS a) (aP a) (aA a) (rN a) r := fun r hr => ang_congr gS gP gA hn12 hr
  have hpsh : ∀ r, r < 12 → psh (μ (6, t, 0)) (mom (μ (6, t, 0)) (μ (7, t, 0)) (rN a)) r = psh (aS a) (mom (aS a) (aP a) (rN a)) r := fun r hr => psh_congr (gS 5 (by omega)) (gS 4 (by omega)) (hmom r hr)
  unfold Rep
  rw [tick_N, tick_K]
  refine ⟨⟨?_, ?_, ?_⟩, ?_, ?_, ?_, ?_, ?_, ?_⟩
  · rw [h5, tick_0]
    exact (if_neg (by decide)).trans g0
  · rw [h5, tick_1, ← g1]
    exact if_pos rfl
  · rw [h5, tick_33]
    exact (if_neg (by decide)).trans g2
  · intro j hj
    rw [ho.at (6, t, 0), gS j hj, tick_S hj]
  · intro r hr
    rw [h7, hmom r hr, tick_P hr]
  · intro r hr
    rw [h8, hang r hr, tick_A hr]
  · intro c hc
    rw [ho.at (9, t, 0), gT c hc, tick_allA hB hS hD hc]
  · intro c hc i hi
    rw [hd c hc, tick_D hn1 hn12 hk6 hc hi, gT c hc]
    unfold dyN
    by_cases h0 : 0 < allA (aD a c) (rN a)
    · rw [if_pos h0, gS 6 (by omega)]
      exact mixF_congr (by omega) (fun q hq => dyf_congr hn1 hn12 (gD c hc) (fun j hj => hang j (by omega)) (fun j hj => hpsh j (by omega)) hq) i hi
    · rw [if_neg h0, gD c hc i hi]
      have hz : allA (aD a c) (rN a) = 0 := by
        have := (DI_all hn12 (hD c hc)).1
        rw [i_pos] at h0
        exact Int32.toInt_inj.mp (by rw [Int32.toInt_zero]; omega)
      exact (zero_tick hn12 _ (hD c hc) (fun r _ => psh_b _ _ r) hS.2.2.2.2.2 hz hi).symm
  · intro m hm
    refine RepM_tick hT hB hM hm (gM m hm) (by rw [e5]; exact g0) (e13 m) (fun j hj => ?_) (fun j hj => ?_) (hMS m hm)
    · rw [e16 j hj]
      exact vel_congr (hmom j (by omega))
    · rw [e17 j hj]
      exact hpsh j (by omega)
