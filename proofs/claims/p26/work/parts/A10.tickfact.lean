/-! what a tick and the calls do to a row, as the law asks it -/
theorem Full_M {a : rw} (h : Full a) {m : Nat} (hm : m < rK a) : ∃ p g : Nat, p < 1000 * rN a ∧ g ≤ 100000 ∧ a (34 + 104 * m) = nI p ∧ a (36 + 104 * m) = nI g := by
  obtain ⟨t, ht, h1, hI, _⟩ := h
  obtain ⟨p, g, h2, h3, h4, h5⟩ := hI.2.2.2 m hm
  exact ⟨p, g, h2, by omega, h4, h5⟩
theorem Full_tick {a : rw} (h : Full a) {t : Nat} (h1 : a 1 = nI t) (ht : t + 1 ≤ 100000) : Full (tickF a) := by
  have := Full_it h (M := 1) (by omega) (by rw [h1, nI_add]; exact (n_in (k := t + 1) 0 100000 (by omega)).2)
  exact this
theorem Full_its {a : rw} (h : Full a) {t k : Nat} (h1 : a 1 = nI t) (hk : k ≤ 1000) (ht : t + k ≤ 100000) : Full (itF k a) := Full_it h hk (by rw [h1, nI_add]; exact (n_in (k := t + k) 0 100000 (by omega)).2)
section TICK
variable {a : rw} {m g : Nat}
theorem tk_pl (hm : m < rK a) : tickF a (34 + 104 * m) = plN (midA a) (34 + 104 * m) := by
  have := tick_M (a := a) hm (j := 0) (by omega)
  exact this
theorem tk_an (hm : m < rK a) : tickF a (34 + 104 * m + 1) = anN (midA a) (34 + 104 * m) := by
  have := tick_M (a := a) hm (j := 1) (by omega)
  exact this
theorem tk_g (hm : m < rK a) (hk : rK a ≤ 6) (hg : a (36 + 104 * m) = nI g) : tickF a (36 + 104 * m) = nI (g + 1) := by
  have h := tick_M (a := a) hm (j := 2) (by omega)
  rw [show 34 + 104 * m + 2 = 36 + 104 * m by omega] at h
  rw [h]
  show midA a (34 + 104 * m + 2) + 1 = _
  rw [mid_w (by omega), show 34 + 104 * m + 2 = 36 + 104 * m by omega, hg]
  exact nI_add g 1
theorem tk_cnt (hm : m < rK a) (hk : rK a ≤ 6) (hg : a (36 + 104 * m) = nI g) (hg2 : g < 2 ^ 30) : (midA a (34 + 104 * m + 2)).toNatClampNeg % 50 = g % 50 := by
  rw [mid_w (by omega), show 34 + 104 * m + 2 = 36 + 104 * m by omega, hg, nI_clamp (by omega)]
theorem tk_new (hm : m < rK a) (hk : rK a ≤ 6) (hg : a (36 + 104 * m) = nI g) (hg2 : g < 2 ^ 30) : tickF a (38 + 104 * m + 2 * (g % 50)) = plN (midA a) (34 + 104 * m) ∧ tickF a (38 + 104 * m + 2 * (g % 50) + 1) = anN (midA a) (34 + 104 * m) := by
  have hc := tk_cnt hm hk hg hg2
  have := Nat.mod_lt g (show 50 > 0 by omega)
  constructor
  · have h := tick_M (a := a) hm (j := 4 + 2 * (g % 50)) (by omega)
    rw [show 34 + 104 * m + (4 + 2 * (g % 50)) = 38 + 104 * m + 2 * (g % 50) by omega] at h
    rw [h, mkF, if_neg (by omega), if_neg (by omega), if_neg (by omega), if_neg (by omega), if_pos (by rw [hc]; omega), if_pos (by omega)]
  · have h := tick_M (a := a) hm (j := 4 + 2 * (g % 50) + 1) (by omega)
    rw [show 34 + 104 * m + (4 + 2 * (g % 50) + 1) = 38 + 104 * m + 2 * (g % 50) + 1 by omega] at h
    rw [h, mkF, if_neg (by omega), if_neg (by omega), if_neg (by omega), if_neg (by omega), if_pos (by rw [hc]; omega), if_neg (by omega)]
theorem tk_old (hm : m < rK a) (hk : rK a ≤ 6) (hg : a (36 + 104 * m) = nI g) (hg2 : g < 2 ^ 30) {i : Nat} (hi : i < 50) (hne : i ≠ g % 50) : tickF a (38 + 104 * m + 2 * i) = a (38 + 104 * m + 2 * i) := by
  have hc := tk_cnt hm hk hg hg2
  have h := tick_M (a := a) hm (j := 4 + 2 * i) (by omega)
  rw [show 34 + 104 * m + (4 + 2 * i) = 38 + 104 * m + 2 * i by omega] at h
  rw [h, mkF, if_neg (by omega), if_neg (by omega), if_neg (by omega), if_neg (by omega), if_neg (by rw [hc]; omega), mid_w (by omega)]
  exact congrArg a (by omega)
theorem Lw.tick {t : Nat} (h : Lw a t) (hF : Full a) : Lw (tickF a) (t + 1) := by
  have hk := (Full_K hF).2
  refine ⟨by rw [tick_1, h.1]; exact nI_add t 1, fun m hm g' hg' h1 e => ?_⟩
  rw [tick_K] at hm
  obtain ⟨p, g, h2, h3, h4, h5⟩ := Full_M hF hm
  rw [tk_g hm hk h5] at e
  have := nI_inj (by omega) (by omega) e
  subst this
  rw [Nat.add_sub_cancel, (tk_new hm hk h5 (by omega)).1, tk_pl hm]
theorem Lw.it {t : Nat} (h : Lw a t) (hF : Full a) : ∀ k, k ≤ 1000 → t + k ≤ 100000 → Lw (itF k a) (t + k)
  | 0, _, _ => h
  | k + 1, h1, h2 => by
    have hF2 := Full_its hF h.1 (k := k) (by omega) (by omega)
    exact (Lw.it h hF k (by omega) (by omega)).tick hF2
end TICK
/-! momenta change by wall and floor alone -/
theorem sm_inn (S P : Nat → Int32) : ∀ k, sm (inn S P) (k + 1) = sm (mv S P) k
  | 0 => by simp [sm, inn]
  | k + 1 => by
    rw [sm, sm_inn S P k, sm, inn, if_neg (by omega), Nat.add_sub_cancel]
theorem sm_out (S P : Nat → Int32) (n : Nat) : sm (out S P (n + 1)) (n + 1) = sm (mv S P) n := by
  rw [sm, out, if_neg (by omega), Int32.add_zero]
  exact sm_congr n (fun j hj => if_pos (by omega))
theorem sm_wal (S P : Nat → Int32) (n : Nat) : sm (wal S P (n + 1)) (n + 1) = S 1 * (S 2 - vel P n) / 100 := by
  rw [sm, wal, if_pos rfl, sm_zero (f := wal S P (n + 1)) n (fun k hk => if_neg (by omega)), Int32.zero_add]
theorem momp_l (S P : Nat → Int32) (n : Nat) : ∀ i, i ≤ n → sm (mom S P n) i = sm P i + (sm (inn S P) i - sm (out S P n) i) + sm (wal S P n) i + sm (fri S P) i
  | 0, _ => by simp [sm]
  | i + 1, h => by
    rw [sm, momp_l S P n i (by omega), mom, if_pos (by omega), sm, sm, sm, sm, sm]
    grind
def dueF (S P : Nat → Int32) (n k : Nat) : Int32 := S 1 * (S 2 - vel P (n - 1)) / 100 + sm (fri S P) k
theorem mom_sum (S P : Nat → Int32) {n : Nat} (hn : 1 ≤ n) : sm (mom S P n) n = sm P n + dueF S P n n := by
  obtain ⟨k, rfl⟩ : ∃ k, n = k + 1 := ⟨n - 1, by omega⟩
  rw [momp_l S P (k + 1) (k + 1) (Nat.le_refl _), sm_inn, sm_out, sm_wal, dueF, Nat.add_sub_cancel]
  grind
theorem dueF_s (S P : Nat → Int32) (n k : Nat) : dueF S P n (k + 1) = dueF S P n k + fri S P k := by
  unfold dueF
  rw [sm, Int32.add_assoc]
theorem tick_sum {a : rw} (h : Full a) : sm (aP (tickF a)) (rN a) = sm (aP a) (rN a) + dueF (aS a) (aP a) (rN a) (rN a) := by
  have hn := Full_n h
  rw [← mom_sum _ _ (by omega)]
  exact sm_congr _ (fun r hr => tick_P (by omega))
theorem tick_vel {a : rw} {r : Nat} (hr : r < 12) : vel (aP (tickF a)) r = vel (mom (aS a) (aP a) (rN a)) r := vel_congr (tick_P hr)
theorem tick_psh {a : rw} {r : Nat} (hr : r < 12) : psh (aS (tickF a)) (aP (tickF a)) r = psh (aS a) (mom (aS a) (aP a) (rN a)) r := psh_congr (tick_S (by omega)) (tick_S (by omega)) (tick_P hr)
theorem tick_ang {a : rw} (h : Full a) {r : Nat} (hr : r < rN a) : aA (tickF a) r = fmd (aA a r + vel (aP (tickF a)) r) 3600 := by
  have hn := Full_n h
  rw [tick_A (by omega), ang, if_pos hr, tick_vel (by omega)]
/-- the law's clamp -/
def clL (n to : Int32) : Int32 := if to < 0 then 0 else if 1000 * n - 1 < to then 1000 * n - 1 else to
theorem mvp_clL {n : Nat} (h2 : 2 ≤ n) (h12 : n ≤ 12) (p x : Int32) : mvp (1000 * nI n - 1) p x = clL (nI n) (p + x) := by
  have e1 : 1000 * nI n = nI (1000 * n) := pk_mul 1000 n
  have e2 : (1000 * nI n - 1).toInt = 1000 * n - 1 := by
    rw [e1, Int32.toInt_sub, nI_toInt (by omega), show (1 : Int32).toInt = 1 by decide, Int.bmod_eq_of_le (by omega) (by omega)]
    omega
  unfold mvp clL
  generalize 1000 * nI n - 1 = L at e2
  generalize p + x = y
  simp only [Int32.lt_iff_toInt_lt, Int32.toInt_zero]
  by_cases h1 : y.toInt < L.toInt
  · rw [if_pos h1]
    by_cases h3 : 0 < y.toInt
    · rw [if_pos h3, if_neg (by omega), if_neg (by omega)]
    · rw [if_neg h3]
      by_cases h4 : y.toInt < 0
      · rw [if_pos h4]
      · rw [if_neg h4, if_neg (by omega)]
        exact i32_eq (by rw [Int32.toInt_zero]; omega)
  · rw [if_neg h1, if_pos (by omega), if_neg (by omega)]
    by_cases h4 : L.toInt < y.toInt
    · rw [if_pos h4]
    · rw [if_neg h4]
      exact i32_eq (by omega)
theorem tick_place {a : rw} (h : Full a) {m p : Nat} (hm : m < rK a) (hp : p < 1000 * rN a) (ep : a (34 + 104 * m) = nI p) : tickF a (34 + 104 * m) = clL (nI (rN a)) (nI p + psh (aS (tickF a)) (aP (tickF a)) (p / 1000)) ∧ tickF a (34 + 104 * m + 1) = fmd (a (34 + 104 * m + 1) + vel (aP (tickF a)) (p / 1000)) 3600 := by
  have hn := Full_n h
  have hB := Full_IB h
  obtain ⟨q1, q2⟩ := mid_pl hB hm hp ep
  rw [tk_pl hm, tk_an hm, q1, q2, hB.1, mvp_clL hn.1 hn.2, tick_psh (by omega), tick_vel (by omega), ep]
  exact ⟨rfl, rfl⟩
