/-! the unevenness is at most twice what there is -/
theorem cnt_int {n : Nat} (h2 : 2 ≤ n) (h12 : n ≤ 12) : (2 * (nI n).toInt64 * 24).toInt = 48 * n := by
  have h : n = 2 ∨ n = 3 ∨ n = 4 ∨ n = 5 ∨ n = 6 ∨ n = 7 ∨ n = 8 ∨ n = 9 ∨ n = 10 ∨ n = 11 ∨ n = 12 := by omega
  rcases h with rfl | rfl | rfl | rfl | rfl | rfl | rfl | rfl | rfl | rfl | rfl <;> decide +kernel
theorem sml_b {g : Nat → Int64} {B : Nat → Int} : ∀ n : Nat, n ≤ 1000 → (∀ k, k < n → 0 ≤ (g k).toInt ∧ (g k).toInt ≤ B k ∧ B k ≤ 10000000000) → 0 ≤ (sml g n).toInt ∧ (sml g n).toInt ≤ smZ B n ∧ smZ B n ≤ n * 10000000000
  | 0, _, _ => by simp [sml, smZ]
  | n + 1, hn, h => by
    obtain ⟨i1, i2, i3⟩ := sml_b n (by omega) (fun k hk => h k (by omega))
    obtain ⟨g1, g2, g3⟩ := h n (by omega)
    rw [sml, smZ, Int64.toInt_add, Int.bmod_eq_of_le (by omega) (by omega)]
    omega
theorem absL_b {x : Int64} {p a : Int} (e : x.toInt = p - a) (hp : 0 ≤ p ∧ p ≤ 6000000000) (ha : 0 ≤ a ∧ a ≤ 10000000) : 0 ≤ (absL x).toInt ∧ (absL x).toInt ≤ p + a := by
  unfold absL
  by_cases h : 0 < x
  · rw [if_pos h]
    rw [Int64.lt_iff_toInt_lt, Int64.toInt_zero] at h
    omega
  · rw [if_neg h]
    rw [Int64.lt_iff_toInt_lt, Int64.toInt_zero] at h
    rw [Int64.toInt_neg, Int.bmod_eq_of_le (by omega) (by omega)]
    omega
theorem unevS_b {n : Nat} (h2 : 2 ≤ n) (h12 : n ≤ 12) {f : Nat → Int32} (hD : DI n f) {A : Int32} {a : Int} (hA : A.toInt = a) (ha : 0 ≤ a ∧ a ≤ 10000000) {L : Nat} (hL : L < 2) : 0 ≤ (unevS f n A.toInt64 L).toInt ∧ (unevS f n A.toInt64 L).toInt ≤ smZ (fun k => (f (rwi L 0 + k)).toInt) (24 * n) * (48 * n) + (24 * n : Nat) * a ∧ (unevS f n A.toInt64 L).toInt ≤ 3000000000000 := by
  have hc := cnt_int h2 h12
  have hb : ∀ k, k < 24 * n → 0 ≤ (f (rwi L 0 + k)).toInt ∧ (f (rwi L 0 + k)).toInt ≤ 10000000 := fun k hk => by
    have hi : rwi L 0 + k < 576 := by unfold rwi; omega
    exact ⟨hD.1 _ hi, DI_le h12 hD hi⟩
  have key := sml_b (g := fun k => absL ((f (rwi L 0 + k)).toInt64 * (2 * (nI n).toInt64 * 24) - A.toInt64)) (B := fun k => (f (rwi L 0 + k)).toInt * (48 * n) + a) (24 * n) (by omega) (fun k hk => by
    obtain ⟨f0, f1⟩ := hb k hk
    have hp : 0 ≤ (f (rwi L 0 + k)).toInt * (48 * (n : Int)) ∧ (f (rwi L 0 + k)).toInt * (48 * (n : Int)) ≤ 10000000 * 576 := ⟨Int.mul_nonneg f0 (by omega), Int.mul_le_mul f1 (by omega) (by omega) (by omega)⟩
    have e : ((f (rwi L 0 + k)).toInt64 * (2 * (nI n).toInt64 * 24) - A.toInt64).toInt = (f (rwi L 0 + k)).toInt * (48 * (n : Int)) - a := by
      rw [Int64.toInt_sub, Int64.toInt_mul, hc, Int32.toInt_toInt64, Int32.toInt_toInt64, hA]
      generalize (f (rwi L 0 + k)).toInt * (48 * (n : Int)) = p at hp
      rw [Int.bmod_eq_of_le (n := p) (by omega) (by omega), Int.bmod_eq_of_le (by omega) (by omega)]
    generalize (f (rwi L 0 + k)).toInt * (48 * (n : Int)) = p at hp e
    obtain ⟨g1, g2⟩ := absL_b e (by omega) ha
    exact ⟨g1, g2, by omega⟩)
  have es : smZ (fun k => (f (rwi L 0 + k)).toInt * (48 * (n : Int)) + a) (24 * n) = smZ (fun k => (f (rwi L 0 + k)).toInt) (24 * n) * (48 * n) + (24 * n : Nat) * a := by
    rw [smZ_add (fun k => (f (rwi L 0 + k)).toInt * (48 * (n : Int))) (fun _ => a), smZ_mul, smZ_const]
  rw [es] at key
  refine ⟨key.1, key.2.1, ?_⟩
  have k2 := key.2.1
  have k3 := key.2.2
  have : ((24 * n : Nat) : Int) * 10000000000 ≤ 3000000000000 := by omega
  exact Int.le_trans k2 (Int.le_trans k3 this)
theorem unev_ok {n : Nat} (h2 : 2 ≤ n) (h12 : n ≤ 12) {f : Nat → Int32} (hD : DI n f) : 0 ≤ (unev f n (allA f n).toInt64).toInt ∧ (unev f n (allA f n).toInt64).toInt ≤ 2 * (allA f n).toInt := by
  have hall := DI_all h12 hD
  obtain ⟨a, ha⟩ : ∃ a, a = (allA f n).toInt := ⟨_, rfl⟩
  rw [← ha] at hall ⊢
  have hc := cnt_int h2 h12
  obtain ⟨u1, u2, u3⟩ := unevS_b h2 h12 hD ha.symm ⟨hall.1, hall.2.1⟩ (L := 0) (by omega)
  obtain ⟨v1, v2, v3⟩ := unevS_b h2 h12 hD ha.symm ⟨hall.1, hall.2.1⟩ (L := 1) (by omega)
  have es : a = smZ (fun k => (f (rwi 0 0 + k)).toInt) (24 * n) + smZ (fun k => (f (rwi 1 0 + k)).toInt) (24 * n) := by
    rw [hall.2.2]
    unfold inS
    rw [smZ_congr (f := fun k => (f (rwi 0 0 + k)).toInt) (g := fun k => (f k).toInt) (24 * n) (fun k hk => by rw [show rwi 0 0 + k = k by unfold rwi; omega]), smZ_congr (f := fun k => (f (rwi 1 0 + k)).toInt) (g := fun k => (f (288 + k)).toInt) (24 * n) (fun k hk => by rw [show rwi 1 0 + k = 288 + k by unfold rwi; omega])]
  have hs : (unevS f n (allA f n).toInt64 0 + unevS f n (allA f n).toInt64 1).toInt = (unevS f n (allA f n).toInt64 0).toInt + (unevS f n (allA f n).toInt64 1).toInt := by
    rw [Int64.toInt_add, Int.bmod_eq_of_le (by omega) (by omega)]
  generalize hX : (unevS f n (allA f n).toInt64 0).toInt + (unevS f n (allA f n).toInt64 1).toInt = X at hs
  generalize smZ (fun k => (f (rwi 0 0 + k)).toInt) (24 * n) = s0 at u2 es
  generalize smZ (fun k => (f (rwi 1 0 + k)).toInt) (24 * n) = s1 at v2 es
  have hXb : X ≤ 2 * a * (48 * (n : Int)) := by
    have e1 : s0 * (48 * (n : Int)) + s1 * (48 * (n : Int)) = a * (48 * (n : Int)) := by rw [es, Int.add_mul]
    have e2 : ((24 * n : Nat) : Int) * a + ((24 * n : Nat) : Int) * a = a * (48 * (n : Int)) := by
      rw [← Int.add_mul, Int.mul_comm]
      congr 1
      omega
    have e3 : 2 * a * (48 * (n : Int)) = a * (48 * (n : Int)) + a * (48 * (n : Int)) := by rw [Int.mul_assoc]; omega
    omega
  have hX0 : 0 ≤ X := by omega
  have hXm : X ≤ 6000000000000 := by omega
  have hdiv : (unev f n (allA f n).toInt64).toInt = X / (48 * (n : Int)) := by
    unfold unev
    rw [Int64.toInt_div_of_ne_right _ _ (fun e => by
      rw [e] at hc
      have : (-1 : Int64).toInt = -1 := by decide
      omega), hs, hc, Int.tdiv_eq_ediv_of_nonneg hX0]
  rw [hdiv]
  refine ⟨Int.ediv_nonneg hX0 (by omega), ?_⟩
  have h48 : (0 : Int) < 48 * (n : Int) := by omega
  exact Int.ediv_le_of_le_mul h48 hXb
theorem unev_law {n : Nat} (h2 : 2 ≤ n) (h12 : n ≤ 12) {f : Nat → Int32} (hD : DI n f) : ¬ unev f n (allA f n).toInt64 < 0 ∧ unev f n (allA f n).toInt64 ≤ 2 * (allA f n).toInt64 := by
  obtain ⟨h, h'⟩ := unev_ok h2 h12 hD
  have hall := DI_all h12 hD
  refine ⟨fun q => ?_, ?_⟩
  · rw [Int64.lt_iff_toInt_lt, Int64.toInt_zero] at q
    omega
  · rw [Int64.le_iff_toInt_le, Int64.toInt_mul, Int32.toInt_toInt64, show (2 : Int64).toInt = 2 by decide, Int.bmod_eq_of_le (by omega) (by omega)]
    exact h'
