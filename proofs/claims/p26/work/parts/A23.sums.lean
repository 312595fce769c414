/-! a ring's cells by their sectors: the same sums -/
theorem cel_rot (a : rw) (r : Nat) : ∃ d, d < 24 ∧ ∀ s, s < 24 → cel a r (nI s) = (s + d) % 24 := by
  have hC := div150 (aA a r)
  refine ⟨((-(aA a r / 150).toInt) % 24).toNat, by omega, fun s hs => ?_⟩
  have := cel_int a r hs
  omega
theorem sm_rot (g : Nat → Int32) {d : Nat} (hd : d < 24) : sm (fun k => g ((k + d) % 24)) 24 = sm g 24 := by
  have e1 := sm_split (fun k => g ((k + d) % 24)) (24 - d) d
  have e2 := sm_split g d (24 - d)
  rw [show 24 - d + d = 24 by omega] at e1
  rw [show d + (24 - d) = 24 by omega] at e2
  rw [e1, e2, sm_congr (f := fun k => g ((k + d) % 24)) (g := fun j => g (d + j)) (24 - d) (fun j hj => congrArg g (by omega)), sm_congr (f := fun j => g ((24 - d + j + d) % 24)) (g := g) d (fun j hj => congrArg g (by omega)), Int32.add_comm]
/-- the cell that the law looks at -/
def dK (a : rw) (f : Nat → Int32) (r k : Nat) : Int32 := f (rwi (k / 24) r + cel a r (nI (k % 24)))
theorem dK_sum (a : rw) (f : Nat → Int32) (r : Nat) : sm (dK a f r) 24 = rowS f 0 r ∧ sm (dK a f r) 48 = ringS f r := by
  obtain ⟨d, hd, hcel⟩ := cel_rot a r
  have h0 : sm (dK a f r) 24 = rowS f 0 r := by
    rw [sm_congr (f := dK a f r) (g := fun k => f (rwi 0 r + (k + d) % 24)) 24 (fun k hk => by
      unfold dK
      rw [show k / 24 = 0 by omega, show k % 24 = k by omega, hcel k hk])]
    exact sm_rot (fun j => f (rwi 0 r + j)) hd
  refine ⟨h0, ?_⟩
  have e := sm_split (dK a f r) 24 24
  rw [show 24 + 24 = 48 from rfl] at e
  rw [e, h0, sm_congr (f := fun j => dK a f r (24 + j)) (g := fun k => f (rwi 1 r + (k + d) % 24)) 24 (fun k hk => by
      unfold dK
      rw [show (24 + k) / 24 = 1 by omega, show (24 + k) % 24 = k by omega, hcel k hk])]
  rw [sm_rot (fun j => f (rwi 1 r + j)) hd]
  rfl
theorem dK_ix (a : rw) {r k : Nat} (hr : r < 12) (hk : k < 48) : rwi (k / 24) r + cel a r (nI (k % 24)) < 576 := by
  have := (cel_eq a r (nI (k % 24))).1
  unfold rwi
  omega
theorem dK_on (a : rw) (f : Nat → Int32) {n i : Nat} (hn : n ≤ 12) (hi : inR n i) : ∃ r k, r < n ∧ k < 48 ∧ dK a f r k = f i := by
  obtain ⟨L, r, x, hL, hr, hx, e⟩ : ∃ L r x, L < 2 ∧ r < n ∧ x < 24 ∧ i = rwi L r + x := by
    rcases hi with h | h
    · exact ⟨0, i / 24, i % 24, by omega, by omega, by omega, by unfold rwi; omega⟩
    · exact ⟨1, (i - 288) / 24, (i - 288) % 24, by omega, by omega, by omega, by unfold rwi; omega⟩
  obtain ⟨d, hd, hcel⟩ := cel_rot a r
  refine ⟨r, 24 * L + (x + 24 - d) % 24, hr, by omega, ?_⟩
  unfold dK
  rw [show (24 * L + (x + 24 - d) % 24) / 24 = L by omega, show (24 * L + (x + 24 - d) % 24) % 24 = (x + 24 - d) % 24 by omega, hcel _ (by omega), e]
  exact congrArg f (by omega)
/-! cells with dye, counted -/
def inD (f : Nat → Int32) (i : Nat) : Int32 := if 0 < f i then 1 else 0
theorem cnf_sm (f : Nat → Int32) : ∀ n, cnf f n = sm (inD f) n
  | 0 => rfl
  | n + 1 => by
    rw [cnf, sm, cnf_sm f n, inD]
    split
    · rfl
    · exact (Int32.add_zero _).symm
theorem sm_out0 (f : Nat → Int32) {n : Nat} (hn : n ≤ 12) (h : ∀ i, i < 576 → ¬ inR n i → f i = 0) : sm f 576 = allA f n := by
  rw [allA_flat]
  have e1 := sm_split f 288 288
  have e2 := sm_split f (24 * n) (288 - 24 * n)
  have e3 := sm_split (fun k => f (288 + k)) (24 * n) (288 - 24 * n)
  rw [show 24 * n + (288 - 24 * n) = 288 by omega] at e2 e3
  rw [show 288 + 288 = 576 from rfl] at e1
  rw [e1, e2, e3, sm_zero (f := fun j => f (24 * n + j)) (288 - 24 * n) (fun k hk => h _ (by omega) (by unfold inR; omega)), sm_zero (f := fun j => f (288 + (24 * n + j))) (288 - 24 * n) (fun k hk => h _ (by omega) (by unfold inR; omega)), Int32.add_zero, Int32.add_zero]
theorem allA_ring (f : Nat → Int32) (n : Nat) : sm (ringS f) n = allA f n := sm_pl (rowS f 0) (rowS f 1) n
theorem inD_dK (a : rw) (f : Nat → Int32) (r k : Nat) : dK a (inD f) r k = (if 0 < dK a f r k then 1 else 0) := rfl
theorem many_eq (a : rw) {f : Nat → Int32} {n : Nat} (hn : n ≤ 12) (h : DI n f) : sm (ringS (inD f)) n = cnf f 576 := by
  rw [cnf_sm, allA_ring]
  exact (sm_out0 (inD f) hn (fun i hi ho => by
    unfold inD
    rw [h.2.1 i hi ho]
    exact if_neg (by decide))).symm
/-! longs -/
theorem i64_eq {x y : Int64} (h : x.toInt = y.toInt) : x = y := Int64.toInt_inj.mp h
theorem l_add {x y : Int32} (h1 : -2147483648 ≤ x.toInt + y.toInt) (h2 : x.toInt + y.toInt < 2147483648) : x.toInt64 + y.toInt64 = (x + y).toInt64 := by
  apply i64_eq
  rw [Int64.toInt_add, Int32.toInt_toInt64, Int32.toInt_toInt64, Int32.toInt_toInt64, Int32.toInt_add, Int.bmod_eq_of_le (by omega) (by omega), Int.bmod_eq_of_le (by omega) (by omega)]
theorem sm_int {g : Nat → Int32} : ∀ (n : Nat), (∀ k, k < n → 0 ≤ (g k).toInt) → smZ (fun k => (g k).toInt) n ≤ 1000000000 → (sm g n).toInt = smZ (fun k => (g k).toInt) n
  | 0, _, _ => by simp [sm, smZ]
  | n + 1, h, hb => by
    have h0 := h n (by omega)
    have hnn := smZ_nn (f := fun k => (g k).toInt) n (fun k hk => h k (by omega))
    rw [smZ] at hb ⊢
    have ih := sm_int n (fun k hk => h k (by omega)) (by omega)
    rw [sm, Int32.toInt_add, ih, Int.bmod_eq_of_le (by omega) (by omega)]
theorem sml_sm {g : Nat → Int32} : ∀ (n : Nat), (∀ k, k < n → 0 ≤ (g k).toInt) → smZ (fun k => (g k).toInt) n ≤ 1000000000 → sml (fun k => (g k).toInt64) n = (sm g n).toInt64
  | 0, _, _ => by simp [sm, sml]
  | n + 1, h, hb => by
    have h0 := h n (by omega)
    have hnn := smZ_nn (f := fun k => (g k).toInt) n (fun k hk => h k (by omega))
    rw [smZ] at hb
    have ih := sml_sm n (fun k hk => h k (by omega)) (by omega)
    have e := sm_int n (fun k hk => h k (by omega)) (by omega)
    rw [sml, sm, ih]
    exact l_add (by omega) (by omega)
