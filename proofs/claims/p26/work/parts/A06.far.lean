/-! calls that are refused -/
theorem zCs.ref {y : MethodName} {cc : ByteArray} {nL d : Nat} {ret : Option FieldType} {av : List zV} {μ : zM} {P : zM → Int32 → Prop} {v : Int32} (h : zCs y cc nL ret d av μ P) (hp : ∀ μ' r, P μ' r → μ' = μ ∧ r = v) : zCi y cc nL ret d av μ v :=
  zCt.imp h (fun μ' r ⟨w, e, hw⟩ => ⟨(hp _ _ hw).1, by rw [e, (hp _ _ hw).2]⟩)
def Far (x : Int32) : Prop := x.toInt ≤ -1501 ∨ 1000001 ≤ x.toInt
theorem Far.out {x : Int32} (h : Far x) {lo hi : Int32} (h1 : -1500 ≤ lo.toInt) (h2 : hi.toInt ≤ 1000000) : ¬ (lo ≤ x ∧ x ≤ hi) := fun q => by
  have e1 := Int32.le_iff_toInt_le.mp q.1
  have e2 := Int32.le_iff_toInt_le.mp q.2
  rcases h with h | h <;> omega
theorem Far.ne {x : Int32} (h : Far x) {k : Int32} (h1 : -1500 ≤ k.toInt) (h2 : k.toInt ≤ 1000000) : ¬ x = k := fun q => by
  subst q
  rcases h with h | h <;> omega
theorem rg_n {n : Nat} (h : n ≤ 12) : (nI n - 1).toInt ≤ 11 := by
  rw [Int32.toInt_sub, nI_toInt (by omega), show (1 : Int32).toInt = 1 by decide, Int.bmod_eq_of_le (by omega) (by omega)]
  omega
section FAR
variable {μ : zM} {a : rw} {S : Nat → Option rw} {l : Nat} {x : Int32}
theorem Full_n {a : rw} (h : Full a) : 2 ≤ rN a ∧ rN a ≤ 12 := (Full_R0 h).2
theorem f_setUp (h : OK μ a S l) (hx : Far x) : zCi yX3_setUp prog_1_method_2_code 3 (some .int) 3 [zR (0, 0, 0), zI x] μ (-2) := (o_setUp h x).ref (fun μ' r q => by
  rcases q with q | q
  · exact absurd q.1 (hx.out (by decide) (by decide))
  · exact ⟨q.2.2, q.2.1⟩)
theorem f_set (h : OK μ a S l) {s v : Int32} (hx : ¬ takesP s v) : zCi yX3_set prog_1_method_3_code 4 (some .int) 2 [zR (0, 0, 0), zI s, zI v] μ (-1000000002) := (o_set h s v).ref (fun μ' r q => by
  rcases q with ⟨j, _, _, ht, _⟩ | q
  · exact absurd ht hx
  · exact ⟨q.2.2, q.2.1⟩)
theorem far_ring {n r : Nat} (hx : Far x) (h : r < n) (hn : n ≤ 12) : ¬ x = nI r := hx.ne (by rw [nI_toInt (by omega)]; omega) (by rw [nI_toInt (by omega)]; omega)
theorem f_spin (h : OK μ a S l) (hx : Far x) : zCi yX3_spin prog_1_method_4_code 4 (some .int) 3 [zR (0, 0, 0), zI x, zI 0] μ (-1000000001) := (o_spin h x 0).ref (fun μ' r q => by
  have hn : ¬ ∃ r, r < rN a ∧ x = nI r := fun ⟨r, hr, e⟩ => far_ring hx hr (Full_n h.2.1).2 e
  rcases q with ⟨r, hr, e, _⟩ | ⟨q | q, e⟩
  · exact absurd ⟨r, hr, e⟩ hn
  · exact ⟨e, q.2⟩
  · exact absurd q.1 hn)
theorem f_spin2 (h : OK μ a S l) (hx : Far x) : zCi yX3_spin prog_1_method_4_code 4 (some .int) 3 [zR (0, 0, 0), zI 0, zI x] μ (-1000000002) := (o_spin h 0 x).ref (fun μ' r q => by
  have hn : ∃ r, r < rN a ∧ (0 : Int32) = nI r := ⟨0, by have := (Full_n h.2.1).1; omega, rfl⟩
  rcases q with ⟨r, hr, e, q, _⟩ | ⟨q | q, e⟩
  · exact absurd q (hx.out (by decide) (by decide))
  · exact absurd hn q.1
  · exact ⟨e, q.2.2⟩)
theorem f_spinAll (h : OK μ a S l) (hx : Far x) : zCi yX3_spinAll prog_1_method_5_code 3 (some .int) 4 [zR (0, 0, 0), zI x, zI 0] μ (-1000000002) := (o_spinAll h x 0).ref (fun μ' r q => by
  rcases q with q | q
  · exact absurd q.1 (hx.out (by decide) (by decide))
  · exact ⟨q.2.2, q.2.1⟩)
theorem f_spinAll2 (h : OK μ a S l) (hx : Far x) : zCi yX3_spinAll prog_1_method_5_code 3 (some .int) 4 [zR (0, 0, 0), zI 0, zI x] μ (-1000000002) := (o_spinAll h 0 x).ref (fun μ' r q => by
  rcases q with q | q
  · exact absurd q.2.1 (hx.out (by decide) (by decide))
  · exact ⟨q.2.2, q.2.1⟩)
theorem f_pour (h : OK μ a S l) {c L r s : Int32} (hx : ¬ isPl (rN a) c L r s) : zCi yX3_pour prog_1_method_6_code 6 (some .int) 4 [zR (0, 0, 0), zI c, zI L, zI r, zI s, zI 1] μ (-1) := (o_pour h c L r s 1).ref (fun μ' r q => by
  rcases q with q | q | q
  · exact ⟨q.2.2, q.2.1⟩
  · exact absurd q.1 hx
  · exact absurd q.1 hx)
theorem isPl0 {n : Nat} (h2 : 2 ≤ n) (h12 : n ≤ 12) : isPl n 0 0 0 0 := by
  refine ⟨by decide, by decide, ⟨by decide, ?_⟩, by decide⟩
  rw [Int32.le_iff_toInt_le, Int32.toInt_sub, nI_toInt (by omega), show (1 : Int32).toInt = 1 by decide, Int.bmod_eq_of_le (by omega) (by omega), Int32.toInt_zero]
  omega
theorem f_pour2 (h : OK μ a S l) (hx : Far x) : zCi yX3_pour prog_1_method_6_code 6 (some .int) 4 [zR (0, 0, 0), zI 0, zI 0, zI 0, zI 0, zI x] μ (-2) := (o_pour h 0 0 0 0 x).ref (fun μ' r q => by
  rcases q with q | q | q
  · exact absurd (isPl0 (Full_n h.2.1).1 (Full_n h.2.1).2) q.1
  · exact ⟨q.2.2.2, q.2.2.1⟩
  · exact absurd q.2.1 (hx.out (by decide) (by decide)))
theorem f_tick (h : OK μ a S l) (hx : Far x) : zCi yX3_tick prog_1_method_7_code 3 (some .int) 6 [zR (0, 0, 0), zI x] μ (-2) := (o_tick h x).ref (fun μ' r q => by
  rcases q with q | q | q
  · exact ⟨q.2.2, q.2.1⟩
  · exact absurd q.1 (hx.out (by decide) (by decide))
  · exact absurd q.1 (hx.out (by decide) (by decide)))
theorem f_ring (h : OK μ a S l) (hx : Far x) : zCi yX3_ring prog_1_method_8_code 3 (some .int) 4 [zR (0, 0, 0), zI x, zI 0] μ (-1000000001) := by
  have := o_ring h x 0
  rwa [ringW, if_neg (hx.out (by decide) (by have := rg_n (Full_n h.2.1).2; omega))] at this
theorem f_ring2 (h : OK μ a S l) (hx : Far x) : zCi yX3_ring prog_1_method_8_code 3 (some .int) 4 [zR (0, 0, 0), zI 0, zI x] μ (-1000000002) := by
  have := o_ring h 0 x
  rwa [ringW, if_pos (isPl0 (Full_n h.2.1).1 (Full_n h.2.1).2).2.2.1, if_neg (hx.ne (by decide) (by decide)), if_neg (hx.ne (by decide) (by decide)), if_neg (hx.ne (by decide) (by decide)), if_neg (hx.ne (by decide) (by decide)), if_neg (hx.ne (by decide) (by decide)), if_neg (hx.ne (by decide) (by decide)), if_neg (hx.ne (by decide) (by decide))] at this
theorem f_dye (h : OK μ a S l) (hx : Far x) : zCi yX3_dye prog_1_method_9_code 5 (some .int) 4 [zR (0, 0, 0), zI 0, zI x, zI 0, zI 0] μ (-1) := by
  have := o_dye h 0 x 0 0
  rwa [dyeW, if_neg (fun q => hx.out (by decide) (by decide) q.2.1)] at this
theorem f_colour (h : OK μ a S l) (hx : Far x) : zCl yX3_colour prog_1_method_10_code 3 (some .long) 5 [zR (0, 0, 0), zI x, zI 0] μ (-1) := by
  have := o_colour h x 0
  rwa [colW, if_neg (hx.out (by decide) (by decide))] at this
theorem f_colour2 (h : OK μ a S l) (hx : Far x) : zCl yX3_colour prog_1_method_10_code 3 (some .long) 5 [zR (0, 0, 0), zI 0, zI x] μ (-2) := by
  have := o_colour h 0 x
  rwa [colW, if_pos (by decide), if_neg (hx.ne (by decide) (by decide)), if_neg (hx.ne (by decide) (by decide)), if_neg (hx.ne (by decide) (by decide)), if_neg (hx.ne (by decide) (by decide)), if_neg (hx.ne (by decide) (by decide)), if_neg (hx.ne (by decide) (by decide))] at this
theorem f_state (h : OK μ a S l) (hx : Far x) : zCi yX3_state prog_1_method_11_code 2 (some .int) 4 [zR (0, 0, 0), zI x] μ (-1000000002) := by
  have := o_state h x
  rwa [staW, if_neg (hx.out (by decide) (by decide)), if_neg (hx.ne (by decide) (by decide)), if_neg (hx.ne (by decide) (by decide)), if_neg (hx.ne (by decide) (by decide)), if_neg (hx.ne (by decide) (by decide)), if_neg (hx.ne (by decide) (by decide)), if_neg (hx.ne (by decide) (by decide))] at this
theorem pl_top {n : Nat} (h : n ≤ 12) : (1000 * nI n - 1).toInt ≤ 11999 := by
  have : n = 0 ∨ n = 1 ∨ n = 2 ∨ n = 3 ∨ n = 4 ∨ n = 5 ∨ n = 6 ∨ n = 7 ∨ n = 8 ∨ n = 9 ∨ n = 10 ∨ n = 11 ∨ n = 12 := by omega
  rcases this with rfl | rfl | rfl | rfl | rfl | rfl | rfl | rfl | rfl | rfl | rfl | rfl | rfl <;> decide
theorem f_marker (h : OK μ a S l) {p g : Int32} (hx : ¬ ((0 ≤ p ∧ p ≤ 1000 * nI (rN a) - 1) ∧ (0 ≤ g ∧ g ≤ 3599))) : zCi yX3_marker prog_1_method_12_code 4 (some .int) 2 [zR (0, 0, 0), zI p, zI g] μ (-2) := (o_marker h p g).ref (fun μ' r q => by
  rcases q with q | q | q
  · exact ⟨q.2.2, q.2.1⟩
  · exact absurd q.1 hx
  · exact absurd q.1 hx)
theorem rg_k {n : Nat} (h : n ≤ 6) : (nI n - 1).toInt ≤ 5 := by
  rw [Int32.toInt_sub, nI_toInt (by omega), show (1 : Int32).toInt = 1 by decide, Int.bmod_eq_of_le (by omega) (by omega)]
  omega
theorem f_where (h : OK μ a S l) (hx : Far x) : zCi yX3_where prog_1_method_13_code 4 (some .int) 3 [zR (0, 0, 0), zI x, zI 0] μ (-1) := by
  have := o_where h x 0
  rwa [whereW, if_neg (hx.out (by decide) (by have := rg_k (Full_K h.2.1).2; omega))] at this
theorem f_path (h : OK μ a S l) (hx : Far x) : zCi yX3_path prog_1_method_14_code 5 (some .int) 4 [zR (0, 0, 0), zI x, zI 0, zI 0] μ (-1) := by
  have := o_path h x 0 0
  rwa [pathW, if_neg (hx.out (by decide) (by have := rg_k (Full_K h.2.1).2; omega))] at this
theorem f_meet (h : OK μ a S l) {x y b m : Int32} (hx : ¬ ((0 ≤ x ∧ x ≤ nI (rK a) - 1) ∧ (0 ≤ y ∧ y ≤ nI (rK a) - 1))) : zCi yX3_meet prog_1_method_17_code 6 (some .int) 5 [zR (0, 0, 0), zI x, zI y, zI b, zI m] μ (-1) := (o_meet h x y b m).ref (fun μ' r q => by
  rcases q with q | q | q
  · exact ⟨q.2.2, q.2.1⟩
  · exact absurd q.1 hx
  · exact absurd q.1 hx)
theorem f_settles (h : OK μ a S l) {b m : Int32} (hx : ¬ ((0 ≤ b ∧ b ≤ 1000) ∧ (1 ≤ m ∧ m ≤ 1000))) : zCi yX3_settles prog_1_method_15_code 4 (some .int) 5 [zR (0, 0, 0), zI b, zI m] μ (-2) := (o_settles h b m).ref (fun μ' r q => by
  rcases q with q | q
  · exact ⟨q.2.2, q.2.1⟩
  · exact absurd q.1 hx)
theorem f_arrives (h : OK μ a S l) {c r s m : Int32} (hx : ¬ ((0 ≤ c ∧ c ≤ 2) ∧ (0 ≤ r ∧ r ≤ nI (rN a) - 1))) : zCi yX3_arrives prog_1_method_16_code 8 (some .int) 5 [zR (0, 0, 0), zI c, zI r, zI s, zI m] μ (-1) := (o_arrives h c r s m).ref (fun μ' r q => by
  rcases q with q | q | q
  · exact ⟨q.2.2, q.2.1⟩
  · exact absurd q.1 hx
  · exact absurd q.1 hx)
theorem f_arrives2 (h : OK μ a S l) (hx : Far x) : zCi yX3_arrives prog_1_method_16_code 8 (some .int) 5 [zR (0, 0, 0), zI 0, zI 0, zI x, zI 1] μ (-2) := (o_arrives h 0 0 x 1).ref (fun μ' r q => by
  have hp := (isPl0 (Full_n h.2.1).1 (Full_n h.2.1).2).2.2.1
  rcases q with q | q | q
  · exact absurd ⟨by decide, hp⟩ q.1
  · exact ⟨q.2.2.2, q.2.2.1⟩
  · exact absurd q.2.1.1 (hx.out (by decide) (by decide)))
theorem f_leastEkman (h : OK μ a S l) {p t : Int32} (hx : ¬ ((0 ≤ p ∧ p ≤ 11000) ∧ (1 ≤ t ∧ t ≤ 50))) : zCi yX3_leastEkman prog_1_method_18_code 5 (some .int) 6 [zR (0, 0, 0), zI 0, zI p, zI t] μ (-2) := (o_leastEkman h 0 p t).ref (fun μ' r q => by
  rcases q with q | q | q
  · exact absurd (by decide) q.1
  · exact ⟨q.2.2.2, q.2.2.1⟩
  · exact absurd q.2.1 hx)
theorem f_say (h : OK μ a S l) (hx : Far x) : zCi yX3_say prog_1_method_20_code 2 (some .int) 3 [zR (0, 0, 0), zI x] μ (-2) := by
  obtain ⟨s, hP⟩ := h.2.2.2.2
  refine (x_say μ hP h.2.2.2.1 x).ref (fun μ' r q => ?_)
  rcases q with q | q | q
  · exact ⟨q.2.2, q.2.1⟩
  · exact absurd q.1 (hx.out (by decide) (by decide))
  · exact absurd q.1 (hx.out (by decide) (by decide))
theorem f_save (h : OK μ a S l) (hx : Far x) : zCi yX3_save prog_1_method_25_code 2 (some .int) 3 [zR (0, 0, 0), zI x] μ (-2) := (o_save h x).ref (fun μ' r q => by
  rcases q with q | q
  · exact ⟨q.2.2, q.2.1⟩
  · exact absurd q.1 (hx.out (by decide) (by decide)))
theorem f_restore (h : OK μ a S l) (hx : Far x) : zCi yX3_restore prog_1_method_26_code 2 (some .int) 3 [zR (0, 0, 0), zI x] μ (-2) := (o_restore h x).ref (fun μ' r q => by
  rcases q with q | q
  · exact ⟨q.2.2, q.2.1⟩
  · exact absurd q.1 (hx.out (by decide) (by decide)))
/-- an empty pad can't be carried out -/
theorem fau_0 (p : Nat → Int32) : fauP (chr p 0) 0 = 0 := by
  have h : ∀ i, chr p 0 i = 0 := fun i => if_neg (by omega)
  have e : stepP (chr p 0) 0 = (0, true, []) := by
    unfold stepP
    rw [h 0, if_neg (by decide), if_neg (by decide), if_neg (by decide)]
  unfold fauP
  have e2 : (txtP (chr p 0) 21 0).2.1 = true ∧ (txtP (chr p 0) 21 0).1 = 0 := by
    show (txtP (chr p 0) (20 + 1) 0).2.1 = true ∧ (txtP (chr p 0) (20 + 1) 0).1 = 0
    rw [txtP, e]
    exact ⟨rfl, rfl⟩
  rw [if_pos (Or.inl e2.1), e2.2]
  rfl
theorem f_carryOut (h : OK μ a S 0) : zCs yX3_carryOut prog_1_method_23_code 3 (some .int) 8 [zR (0, 0, 0)] μ (fun μ' r => r = -3 ∧ OK μ' a S 0) := by
  have hf := fau_0 (μ (4, 0, 0))
  have hne : ¬ fauP (chr (μ (4, 0, 0)) 0) 0 = -6 := by rw [hf]; decide
  refine zCt.imp (o_carryOut h (fun q => absurd q hne)) (fun μ' r ⟨w, e, h1, h2⟩ => ⟨w, e, ?_, ?_⟩)
  · rw [h1, if_neg hne]
  · rw [if_neg hne, if_neg hne] at h2
    exact h2
end FAR
