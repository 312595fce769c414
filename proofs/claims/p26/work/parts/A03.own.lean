/-! the object's state over a row, its slots and its pad; each call of it -/
abbrev rw : Type := Nat → Int32
def SLs (μ : zM) (S : Nat → Option rw) : Prop := ∀ i, i < 2 → (S i = none → μ (2, 0, 0) i = 0) ∧ ∀ b, S i = some b → ¬ μ (2, 0, 0) i = 0 ∧ Rep μ (2 + i) b ∧ Full b
def OK (μ : zM) (a : rw) (S : Nat → Option rw) (l : Nat) : Prop := Rep μ 0 a ∧ Full a ∧ SLs μ S ∧ l ≤ 60 ∧ ∃ s, PD μ l s
theorem SLs.fr {μ μ' : zM} {S : Nat → Option rw} (h : SLs μ S) (h2 : μ' (2, 0, 0) = μ (2, 0, 0)) (hf : ∀ k t i : Nat, 2 ≤ t → μ' (k, t, i) = μ (k, t, i)) : SLs μ' S := fun i hi => by
  rw [h2]
  obtain ⟨h1, h3⟩ := h i hi
  exact ⟨h1, fun b hb => ⟨(h3 b hb).1, Rep_frame (h3 b hb).2.1 (fun k j _ _ => hf k (2 + i) j (by omega)), (h3 b hb).2.2⟩⟩
theorem PD.fr {μ μ' : zM} {l s : Nat} (h : PD μ l s) (h3 : μ' (3, 0, 0) = μ (3, 0, 0)) (h4 : μ' (4, 0, 0) = μ (4, 0, 0)) : PD μ' l s := by
  unfold PD at h ⊢
  rw [h3, h4]
  exact h
section OWN
variable {μ μ' : zM} {a a' : rw} {S : Nat → Option rw} {l : Nat}
theorem OK.to (h : OK μ a S l) (hz : zo01 μ μ') (hR : Rep μ' 0 a') (hF : Full a') : OK μ' a' S l := by
  obtain ⟨_, _, hS, hl, s, hP⟩ := h
  exact ⟨hR, hF, hS.fr (hz.at _ _ 2 (Or.inl (by decide))) (fun k t i ht => hz (k, t, i) (Or.inl ht)), hl, s, hP.fr (hz.at _ _ 3 (Or.inl (by decide))) (hz.at _ _ 4 (Or.inl (by decide)))⟩
theorem OK.cp (h : OK μ a S l) (hz : zoT 1 μ μ') : OK μ' a S l := h.to hz.o01 (Rep_frame h.1 (fun k i _ _ => hz (k, 0, i) (Or.inl (show (0 : Nat) ≠ 1 by decide)))) h.2.1
theorem Full_K {a : rw} (h : Full a) : a 33 = nI (rK a) ∧ rK a ≤ 6 := ⟨(Full_IB h).2.2.2.1, (Full_IB h).2.2.2.2⟩
theorem o_setUp (h : OK μ a S l) (x : Int32) : zCs yX3_setUp prog_1_method_2_code 3 (some .int) 3 [zR (0, 0, 0), zI x] μ (fun μ' r => ((2 ≤ x ∧ x ≤ 12) ∧ r = a 0 ∧ OK μ' (beg x) S l) ∨ ¬ (2 ≤ x ∧ x ≤ 12) ∧ r = -2 ∧ μ' = μ) :=
  zCt.imp (x_setUp μ a h.1 x) (fun μ' r ⟨w, e, h1⟩ => ⟨w, e, h1.imp (fun ⟨p, q, z, R⟩ => ⟨p, q, h.to z.o01 R (Full_beg p)⟩) id⟩)
theorem o_set (h : OK μ a S l) (s v : Int32) : zCs yX3_set prog_1_method_3_code 4 (some .int) 2 [zR (0, 0, 0), zI s, zI v] μ (fun μ' r => (∃ j : Nat, j < 7 ∧ s = nI j ∧ takesP s v ∧ r = a (2 + j) ∧ OK μ' (upd a (2 + j) v) S l) ∨ ¬ takesP s v ∧ r = -1000000002 ∧ μ' = μ) :=
  zCt.imp (x_set μ a h.1 s v) (fun μ' r ⟨w, e, h1⟩ => ⟨w, e, h1.imp (fun ⟨j, hj, es, ht, q, z, R⟩ => ⟨j, hj, es, ht, q, h.to z.o01 R (Full_set h.2.1 hj (by rw [← es]; exact ht))⟩) id⟩)
theorem o_spin (h : OK μ a S l) (x v : Int32) : zCs yX3_spin prog_1_method_4_code 4 (some .int) 3 [zR (0, 0, 0), zI x, zI v] μ (fun μ' w => (∃ r, r < rN a ∧ x = nI r ∧ (-1500 ≤ v ∧ v ≤ 1500) ∧ w = vel (aP a) r ∧ OK μ' (upd a (9 + r) (v * nI (2 * r + 1))) S l) ∨ ((¬ ∃ r, r < rN a ∧ x = nI r) ∧ w = -1000000001 ∨ (∃ r, r < rN a ∧ x = nI r) ∧ ¬ (-1500 ≤ v ∧ v ≤ 1500) ∧ w = -1000000002) ∧ μ' = μ) :=
  zCt.imp (x_spin μ a h.1 (Full_R0 h.2.1) x v) (fun μ' r ⟨w, e, h1⟩ => ⟨w, e, h1.imp (fun ⟨j, hj, es, ht, q, z, R⟩ => ⟨j, hj, es, ht, q, h.to z.o01 R (Full_spin h.2.1 (Nat.lt_of_lt_of_le hj (Full_R0 h.2.1).2.2) ht)⟩) id⟩)
theorem o_spinAll (h : OK μ a S l) (x y : Int32) : zCs yX3_spinAll prog_1_method_5_code 3 (some .int) 4 [zR (0, 0, 0), zI x, zI y] μ (fun μ' w => ((-1500 ≤ x ∧ x ≤ 1500) ∧ (-1500 ≤ y ∧ y ≤ 1500) ∧ w = sm (aP (rg 9 12 (fun j => if j < rN a then gvl x y (rN a) j else aP a j) a)) (rN a) ∧ OK μ' (rg 9 12 (fun j => if j < rN a then gvl x y (rN a) j else aP a j) a) S l) ∨ ¬ ((-1500 ≤ x ∧ x ≤ 1500) ∧ (-1500 ≤ y ∧ y ≤ 1500)) ∧ w = -1000000002 ∧ μ' = μ) :=
  zCt.imp (x_spinAll μ a h.1 (Full_R0 h.2.1) x y) (fun μ' r ⟨w, e, h1⟩ => ⟨w, e, h1.imp (fun ⟨hx, hy, q, z, R⟩ => ⟨hx, hy, q, h.to z.o01 R (Full_spinAll h.2.1 hx hy)⟩) id⟩)
theorem o_pour (h : OK μ a S l) (c L r s m : Int32) : zCs yX3_pour prog_1_method_6_code 6 (some .int) 4 [zR (0, 0, 0), zI c, zI L, zI r, zI s, zI m] μ (fun μ' w => (¬ isPl (rN a) c L r s ∧ w = -1 ∧ μ' = μ) ∨ (isPl (rN a) c L r s ∧ ¬ (1 ≤ m ∧ m ≤ 1000000) ∧ w = -2 ∧ μ' = μ) ∨ (isPl (rN a) c L r s ∧ (1 ≤ m ∧ m ≤ 1000000) ∧ ∃ c' L' r' : Nat, c' < 3 ∧ L' < 2 ∧ r' < rN a ∧ c = nI c' ∧ L = nI L' ∧ r = nI r' ∧ ((¬ allA (aD a c') (rN a) + m ≤ 10000000 ∧ w = -4 ∧ μ' = μ) ∨ (allA (aD a c') (rN a) + m ≤ 10000000 ∧ w = allA (aD a c') (rN a) + m ∧ OK μ' (upd a (dix c' L' r' (cel a r' s)) (a (dix c' L' r' (cel a r' s)) + m)) S l)))) :=
  zCt.imp (x_pour μ a h.1 (Full_R0 h.2.1) (Full_K h.2.1).2 (Full_Gd h.2.1).1.2.2 c L r s m) (fun μ' r' ⟨w, e, h1⟩ => ⟨w, e, h1.imp id (Or.imp id (fun ⟨p1, p2, c', L', r1, k1, k2, k3, k4, k5, k6, k7⟩ => ⟨p1, p2, c', L', r1, k1, k2, k3, k4, k5, k6, k7.imp id (fun ⟨q1, q2, z, R⟩ => ⟨q1, q2, h.to z.o01 R (Full_pour h.2.1 k1 k2 k3 p2 q1)⟩)⟩))⟩)
theorem o_tick (h : OK μ a S l) (x : Int32) : zCs yX3_tick prog_1_method_7_code 3 (some .int) 6 [zR (0, 0, 0), zI x] μ (fun μ' w => (¬ (1 ≤ x ∧ x ≤ 1000) ∧ w = -2 ∧ μ' = μ) ∨ ((1 ≤ x ∧ x ≤ 1000) ∧ ¬ a 1 + x ≤ 100000 ∧ w = -5 ∧ μ' = μ) ∨ ((1 ≤ x ∧ x ≤ 1000) ∧ a 1 + x ≤ 100000 ∧ ∃ M : Nat, M ≤ 1000 ∧ x = nI M ∧ w = itF M a 1 ∧ OK μ' (itF M a) S l)) := by
  obtain ⟨t, ht, h1, hI, hG, hP⟩ := id h.2.1
  exact zCt.imp (x_tick μ a h.1 t t (by omega) hI h1 ht x) (fun μ' r ⟨w, e, h2⟩ => ⟨w, e, h2.imp id (Or.imp id (fun ⟨p, q, M, hM, ex, ew, z, R⟩ => ⟨p, q, M, hM, ex, ew, h.to z.o01 R (Full_it h.2.1 hM (by rw [← ex]; exact q))⟩))⟩)
theorem o_ring (h : OK μ a S l) (x w : Int32) : zCi yX3_ring prog_1_method_8_code 3 (some .int) 4 [zR (0, 0, 0), zI x, zI w] μ (ringW a (rN a) x w) := x_ring μ a h.1 (Full_R0 h.2.1) x w
theorem o_dye (h : OK μ a S l) (c L r s : Int32) : zCi yX3_dye prog_1_method_9_code 5 (some .int) 4 [zR (0, 0, 0), zI c, zI L, zI r, zI s] μ (dyeW a (rN a) c L r s) := x_dye μ a h.1 (Full_R0 h.2.1) c L r s
theorem o_colour (h : OK μ a S l) (x w : Int32) : zCl yX3_colour prog_1_method_10_code 3 (some .long) 5 [zR (0, 0, 0), zI x, zI w] μ (colW a (rN a) x w) := x_colour μ a h.1 (Full_R0 h.2.1) x w
theorem o_state (h : OK μ a S l) (w : Int32) : zCi yX3_state prog_1_method_11_code 2 (some .int) 4 [zR (0, 0, 0), zI w] μ (staW a (rN a) (nI l) w) := by
  obtain ⟨s, hP⟩ := h.2.2.2.2
  have := x_state μ a h.1 (Full_R0 h.2.1) w
  rw [hP.1] at this
  exact this
theorem o_marker (h : OK μ a S l) (p g : Int32) : zCs yX3_marker prog_1_method_12_code 4 (some .int) 2 [zR (0, 0, 0), zI p, zI g] μ (fun μ' w => (¬ ((0 ≤ p ∧ p ≤ 1000 * nI (rN a) - 1) ∧ (0 ≤ g ∧ g ≤ 3599)) ∧ w = -2 ∧ μ' = μ) ∨ (((0 ≤ p ∧ p ≤ 1000 * nI (rN a) - 1) ∧ (0 ≤ g ∧ g ≤ 3599)) ∧ rK a = 6 ∧ w = -4 ∧ μ' = μ) ∨ (((0 ≤ p ∧ p ≤ 1000 * nI (rN a) - 1) ∧ (0 ≤ g ∧ g ≤ 3599)) ∧ rK a < 6 ∧ w = nI (rK a) ∧ OK μ' (upd (upd (upd (upd (upd a (34 + 104 * rK a) p) (34 + 104 * rK a + 1) g) (34 + 104 * rK a + 2) 0) (34 + 104 * rK a + 3) 0) 33 (nI (rK a + 1))) S l)) :=
  zCt.imp (x_marker μ a h.1 (Full_R0 h.2.1) (Full_K h.2.1).1 (Full_K h.2.1).2 p g) (fun μ' r ⟨w, e, h2⟩ => ⟨w, e, h2.imp id (Or.imp id (fun ⟨p1, q, ew, z, R⟩ => ⟨p1, q, ew, h.to z.o01 R (Full_marker h.2.1 q p1.1 p1.2)⟩))⟩)
theorem o_where (h : OK μ a S l) (x w : Int32) : zCi yX3_where prog_1_method_13_code 4 (some .int) 3 [zR (0, 0, 0), zI x, zI w] μ (whereW a (rK a) x w) := x_where μ a h.1 (Full_K h.2.1).1 (Full_K h.2.1).2 (Full_kept h.2.1) x w
theorem o_path (h : OK μ a S l) (x b w : Int32) : zCi yX3_path prog_1_method_14_code 5 (some .int) 4 [zR (0, 0, 0), zI x, zI b, zI w] μ (pathW a (rK a) x b w) := x_path μ a h.1 (Full_K h.2.1).1 (Full_K h.2.1).2 (Full_kept h.2.1) x b w
theorem o_settles (h : OK μ a S l) (b m : Int32) : zCs yX3_settles prog_1_method_15_code 4 (some .int) 5 [zR (0, 0, 0), zI b, zI m] μ (fun μ' w => (¬ ((0 ≤ b ∧ b ≤ 1000) ∧ (1 ≤ m ∧ m ≤ 1000)) ∧ w = -2 ∧ μ' = μ) ∨ (((0 ≤ b ∧ b ≤ 1000) ∧ (1 ≤ m ∧ m ≤ 1000)) ∧ ∃ M : Nat, M ≤ 1000 ∧ m = nI M ∧ FST (fun k => settB (itF k a) (rN a) b) M w ∧ OK μ' a S l)) := by
  obtain ⟨t, ht, h1, hI, hG, hP⟩ := id h.2.1
  exact zCt.imp (x_settles μ a h.1 t ht hI hP b m) (fun μ' r ⟨w, e, h2⟩ => ⟨w, e, h2.imp id (fun ⟨p, M, hM, em, hf, z⟩ => ⟨p, M, hM, em, hf, h.cp z⟩)⟩)
theorem o_arrives (h : OK μ a S l) (c r s m : Int32) : zCs yX3_arrives prog_1_method_16_code 8 (some .int) 5 [zR (0, 0, 0), zI c, zI r, zI s, zI m] μ (fun μ' w => (¬ ((0 ≤ c ∧ c ≤ 2) ∧ (0 ≤ r ∧ r ≤ nI (rN a) - 1)) ∧ w = -1 ∧ μ' = μ) ∨ (((0 ≤ c ∧ c ≤ 2) ∧ (0 ≤ r ∧ r ≤ nI (rN a) - 1)) ∧ ¬ ((1 ≤ s ∧ s ≤ 1000) ∧ (1 ≤ m ∧ m ≤ 500)) ∧ w = -2 ∧ μ' = μ) ∨ (((0 ≤ c ∧ c ≤ 2) ∧ (0 ≤ r ∧ r ≤ nI (rN a) - 1)) ∧ ((1 ≤ s ∧ s ≤ 1000) ∧ (1 ≤ m ∧ m ≤ 500)) ∧ ∃ c' r' M : Nat, c' < 3 ∧ r' < rN a ∧ M ≤ 500 ∧ c = nI c' ∧ r = nI r' ∧ m = nI M ∧ ((allA (aD a c') (rN a) = 0 ∧ w = -5 ∧ μ' = μ) ∨ (¬ allA (aD a c') (rN a) = 0 ∧ FST (fun k => partB (itF k a) (rN a) c' r' s) M w ∧ OK μ' a S l)))) := by
  obtain ⟨t, ht, h1, hI, hG, hP⟩ := id h.2.1
  exact zCt.imp (x_arrives μ a h.1 t (by omega) hI c r s m) (fun μ' r0 ⟨w, e, h2⟩ => ⟨w, e, h2.imp id (Or.imp id (fun ⟨p1, p2, c', r', M, k1, k2, k3, k4, k5, k6, k7⟩ => ⟨p1, p2, c', r', M, k1, k2, k3, k4, k5, k6, k7.imp id (fun ⟨q1, q2, z⟩ => ⟨q1, q2, h.cp z⟩)⟩))⟩)
theorem o_meet (h : OK μ a S l) (x y b m : Int32) : zCs yX3_meet prog_1_method_17_code 6 (some .int) 5 [zR (0, 0, 0), zI x, zI y, zI b, zI m] μ (fun μ' w => (¬ ((0 ≤ x ∧ x ≤ nI (rK a) - 1) ∧ (0 ≤ y ∧ y ≤ nI (rK a) - 1)) ∧ w = -1 ∧ μ' = μ) ∨ (((0 ≤ x ∧ x ≤ nI (rK a) - 1) ∧ (0 ≤ y ∧ y ≤ nI (rK a) - 1)) ∧ ¬ ((0 ≤ b ∧ b ≤ 1800) ∧ (1 ≤ m ∧ m ≤ 1000)) ∧ w = -2 ∧ μ' = μ) ∨ (((0 ≤ x ∧ x ≤ nI (rK a) - 1) ∧ (0 ≤ y ∧ y ≤ nI (rK a) - 1)) ∧ ((0 ≤ b ∧ b ≤ 1800) ∧ (1 ≤ m ∧ m ≤ 1000)) ∧ ∃ i j M : Nat, i < rK a ∧ j < rK a ∧ M ≤ 1000 ∧ x = nI i ∧ y = nI j ∧ m = nI M ∧ FST (fun k => nearB (itF k a) i j b) M w ∧ OK μ' a S l)) := by
  obtain ⟨t, ht, h1, hI, hG, hP⟩ := id h.2.1
  exact zCt.imp (x_meet μ a h.1 t (by omega) hI hG x y b m) (fun μ' r0 ⟨w, e, h2⟩ => ⟨w, e, h2.imp id (Or.imp id (fun ⟨p1, p2, i, j, M, k1, k2, k3, k4, k5, k6, q2, z⟩ => ⟨p1, p2, i, j, M, k1, k2, k3, k4, k5, k6, q2, h.cp z⟩))⟩)
theorem o_leastEkman (h : OK μ a S l) (c p t : Int32) : zCs yX3_leastEkman prog_1_method_18_code 5 (some .int) 6 [zR (0, 0, 0), zI c, zI p, zI t] μ (fun μ' w => (¬ (0 ≤ c ∧ c ≤ 2) ∧ w = -1 ∧ μ' = μ) ∨ ((0 ≤ c ∧ c ≤ 2) ∧ ¬ ((0 ≤ p ∧ p ≤ 11000) ∧ (1 ≤ t ∧ t ≤ 50)) ∧ w = -2 ∧ μ' = μ) ∨ ((0 ≤ c ∧ c ≤ 2) ∧ ((0 ≤ p ∧ p ≤ 11000) ∧ (1 ≤ t ∧ t ≤ 50)) ∧ ∃ c' T : Nat, c' < 3 ∧ T ≤ 50 ∧ c = nI c' ∧ t = nI T ∧ ((allA (aD a c') (rN a) = 0 ∧ w = -5 ∧ μ' = μ) ∨ (¬ allA (aD a c') (rN a) = 0 ∧ FST (ekmB a (rN a) c' T p) 200 w ∧ OK μ' a S l)))) := by
  obtain ⟨t0, ht, h1, hI, hG, hP⟩ := id h.2.1
  exact zCt.imp (x_leastEkman μ a h.1 t0 (by omega) hI c p t) (fun μ' r0 ⟨w, e, h2⟩ => ⟨w, e, h2.imp id (Or.imp id (fun ⟨p1, p2, c', T, k1, k2, k3, k4, k7⟩ => ⟨p1, p2, c', T, k1, k2, k3, k4, k7.imp id (fun ⟨q1, q2, z⟩ => ⟨q1, q2, h.cp z⟩)⟩))⟩)
end OWN
