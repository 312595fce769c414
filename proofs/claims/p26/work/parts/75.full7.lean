theorem inS_ind2 {n p : Nat} (hn : n ≤ 12) (f : Nat → Int32) (m : Int32) (hp : inR n p) (hb : ∀ i, i < 576 → 0 ≤ (f i).toInt ∧ (f i).toInt ≤ 10000000) (hm : 0 ≤ m.toInt ∧ m.toInt ≤ 1000000) : inS n (fun i => (f i + ind p m i).toInt) = inS n (fun i => (f i).toInt) + m.toInt := by
  rw [← inS_ind hn m.toInt hp, ← inS_add n (fun i => (f i).toInt)]
  refine inS_congr hn (fun k hk => ?_)
  have := hb k hk
  unfold ind
  by_cases e : k = p
  · rw [if_pos e, if_pos e, Int32.toInt_add, Int.bmod_eq_of_le (by omega) (by omega)]
  · rw [if_neg e, if_neg e, Int32.add_zero]
    omega
theorem Full_pour {a : Nat → Int32} (h : Full a) {c L r : Nat} {s m : Int32} (hc : c < 3) (hL : L < 2) (hr : r < rN a) (hm : 1 ≤ m ∧ m ≤ 1000000) (hT : allA (aD a c) (rN a) + m ≤ 10000000) : Full (upd a (dix c L r (cel a r s)) (a (dix c L r (cel a r s)) + m)) := by
  obtain ⟨t, ht, h1, ⟨hB, hS, hD, hM⟩, hG, hP⟩ := h
  have hn12 := hB.2.2.1
  have hk6 := hB.2.2.2.2
  have hj := (cel_eq a r s).1
  have hi : rwi L r + cel a r s < 576 := by unfold rwi; omega
  have up : ∀ k, k < 658 → upd a (dix c L r (cel a r s)) (a (dix c L r (cel a r s)) + m) k = a k := fun k hk => if_neg (by unfold dix; omega)
  have en : rN (upd a (dix c L r (cel a r s)) (a (dix c L r (cel a r s)) + m)) = rN a := by unfold rN; rw [up 0 (by omega)]
  have ek : rK (upd a (dix c L r (cel a r s)) (a (dix c L r (cel a r s)) + m)) = rK a := by unfold rK; rw [up 33 (by omega)]
  have eS : ∀ i, i < 7 → aS (upd a (dix c L r (cel a r s)) (a (dix c L r (cel a r s)) + m)) i = aS a i := fun i hi => up _ (by omega)
  have hm1 : 1 ≤ m.toInt ∧ m.toInt ≤ 1000000 := by
    have b1 := Int32.le_iff_toInt_le.mp hm.1
    have b2 := Int32.le_iff_toInt_le.mp hm.2
    rw [show (1 : Int32).toInt = 1 by decide] at b1
    rw [show (1000000 : Int32).toInt = 1000000 by decide] at b2
    exact ⟨b1, b2⟩
  refine ⟨t, ht, (up 1 (by omega)).trans h1, ⟨?_, ?_, ?_, ?_⟩, ?_, ?_⟩
  · unfold IB at hB ⊢
    rw [en, ek, up 0 (by omega), up 33 (by omega)]
    exact hB
  · unfold IS at hS ⊢
    rw [eS 0 (by omega), eS 1 (by omega), eS 2 (by omega), eS 3 (by omega), eS 4 (by omega), eS 6 (by omega)]
    exact hS
  · intro c' hc'
    rw [en]
    by_cases e : c' = c
    · subst e
      refine DI_congr hn12 (aD_pour hi m) ?_
      have hb : ∀ i, i < 576 → 0 ≤ (aD a c' i).toInt ∧ (aD a c' i).toInt ≤ 10000000 := fun i hi => ⟨(hD c' hc').1 i hi, DI_le hn12 (hD c' hc') hi⟩
      have hin : inR (rN a) (rwi L r + cel a r s) := rwi_in hL hr hj
      have hall := DI_all hn12 (hD c' hc')
      have hsum := inS_ind2 hn12 (aD a c') m hin hb (by omega)
      have hT2 := Int32.le_iff_toInt_le.mp hT
      rw [Int32.toInt_add, Int.bmod_eq_of_le (by omega) (by omega), show (10000000 : Int32).toInt = 10000000 by decide, hall.2.2] at hT2
      refine ⟨fun i hi => ?_, fun i hi ho => ?_, by rw [hsum]; exact hT2⟩
      · have := hb i hi
        show 0 ≤ (aD a c' i + (if i = rwi L r + cel a r s then m else 0)).toInt
        by_cases e : i = rwi L r + cel a r s
        · rw [if_pos e, Int32.toInt_add, Int.bmod_eq_of_le (by omega) (by omega)]
          omega
        · rw [if_neg e, Int32.add_zero]
          exact this.1
      · show aD a c' i + (if i = rwi L r + cel a r s then m else 0) = 0
        rw [if_neg (fun q : i = rwi L r + cel a r s => ho (by rw [q]; exact hin)), Int32.add_zero]
        exact (hD c' hc').2.1 i hi ho
    · exact DI_congr hn12 (fun i hi2 => (aD_updD _ hi c' hc' i hi2).trans (if_neg (fun q => e q.1))) (hD c' hc')
  · intro q hq
    rw [ek] at hq
    rw [en, up _ (by omega), up _ (by omega)]
    exact hM q hq
  · intro q hq
    rw [ek] at hq
    rw [up _ (by omega)]
    exact hG q hq
  · exact VB_congr (fun r hr => up _ (by omega)) hP
