/-! the reference's what-ifs -/
theorem itF_hi {a : Nat → Int32} (h6 : rK a ≤ 6) {k : Nat} (hk : 2386 ≤ k) : ∀ i, itF i a k = a k
  | 0 => rfl
  | i + 1 => by
    show tickF (itF i a) k = a k
    have e : rK (itF i a) = rK a := by unfold rK; rw [itF_lo a (by omega) (by omega)]
    unfold tickF
    rw [e, if_neg (by omega), if_neg (by omega)]
    unfold midA dyeA
    rw [show rg2 _ _ k = _ from if_neg (by omega), turnA_lo (by omega)]
    exact itF_hi h6 hk i
