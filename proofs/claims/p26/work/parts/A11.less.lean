/-! fewer locals known -/
def zsb : List zV → List zV → Prop
  | [], _ => True
  | none :: t, _ :: u => zsb t u
  | none :: t, [] => zsb t []
  | some x :: t, y :: u => y = some x ∧ zsb t u
  | some _ :: _, [] => False
theorem zsb_get : ∀ (l' l : List zV), zsb l' l → ∀ (j : Nat) (x : (Int32 ⊕ Int64) ⊕ zA), l'[j]? = some (some x) → l[j]? = some (some x)
  | [], _, _, j, x, h => by simp at h
  | none :: t, y :: u, hz, 0, x, h => by simp at h
  | none :: t, y :: u, hz, j + 1, x, h => by
    simp only [List.getElem?_cons_succ] at h ⊢
    exact zsb_get t u hz j x h
  | none :: t, [], hz, 0, x, h => by simp at h
  | none :: t, [], hz, j + 1, x, h => by
    simp only [List.getElem?_cons_succ] at h
    have := zsb_get t [] hz j x h
    simp at this
  | some z :: t, y :: u, hz, 0, x, h => by
    simp only [List.getElem?_cons_zero] at h ⊢
    rw [hz.1]
    exact h
  | some z :: t, y :: u, hz, j + 1, x, h => by
    simp only [List.getElem?_cons_succ] at h ⊢
    exact zsb_get t u hz.2 j x h
  | some z :: t, [], hz, j, x, h => hz.elim
theorem j_less {K : xK} {d mc ms nL pc : Nat} {own : String} {cc : ByteArray} {ls ls' sk : List zV} {μ : zM} {E : xE} {ce sl : Nat} (h : zsb ls' ls) (k : Xj K d mc ms own cc nL pc ls' sk μ E ce sl) : Xj K d mc ms own cc nL pc ls sk μ E ce sl := by
  obtain ⟨G, p, l, e, R, s, m, args, below, meth, c, A, Q⟩ := K
  intro F H locs la hP hD hS hl
  refine k F H locs la hP hD hS (lv_less hl (fun q hq => ?_))
  obtain ⟨j, x, h1, h2⟩ := (zl_mem _ _).mp hq
  exact (zl_mem _ _).mpr ⟨j, x, zsb_get ls' ls h j x h1, h2⟩
section STS
variable {a : rw} {n : Nat} {pm : Int32}
theorem st_7 : staW a n pm 7 = aS a 1 := by rw [show (7 : Int32) = 6 + nI 1 by decide]; exact st_s (by omega)
theorem st_8 : staW a n pm 8 = aS a 2 := by rw [show (8 : Int32) = 6 + nI 2 by decide]; exact st_s (by omega)
theorem st_9 : staW a n pm 9 = aS a 3 := by rw [show (9 : Int32) = 6 + nI 3 by decide]; exact st_s (by omega)
theorem st_10 : staW a n pm 10 = aS a 4 := by rw [show (10 : Int32) = 6 + nI 4 by decide]; exact st_s (by omega)
theorem st_11 : staW a n pm 11 = aS a 5 := by rw [show (11 : Int32) = 6 + nI 5 by decide]; exact st_s (by omega)
end STS
theorem nI_s1 {n : Nat} (h : 1 ≤ n) : nI n - 1 = nI (n - 1) := by
  obtain ⟨k, rfl⟩ : ∃ k, n = k + 1 := ⟨n - 1, by omega⟩
  rw [← nI_add k 1, Nat.add_sub_cancel]
  show nI k + 1 - 1 = nI k
  grind
section RN
variable {a : rw} {n r c L s m : Nat} {pm : Int32}
theorem rv_vel (e : rN a = n) (hr : r < n) (hn : n ≤ 12) : ringW a (rN a) (nI r) 0 = vel (aP a) r := by rw [e]; exact rd_vel hr hn
theorem rv_mom (e : rN a = n) (hr : r < n) (hn : n ≤ 12) : ringW a (rN a) (nI r) 1 = aP a r := by rw [e]; exact rd_mom hr hn
theorem rv_ang (e : rN a = n) (hr : r < n) (hn : n ≤ 12) : ringW a (rN a) (nI r) 2 = aA a r := by rw [e]; exact rd_ang hr hn
theorem rv_psh (e : rN a = n) (hr : r < n) (hn : n ≤ 12) : ringW a (rN a) (nI r) 3 = psh (aS a) (aP a) r := by rw [e]; exact rd_psh hr hn
theorem rv_sum (e : rN a = n) (hr : r < n) (hn : n ≤ 12) (hc : c < 3) : ringW a (rN a) (nI r) (4 + nI c) = ringS (aD a c) r := by rw [e]; exact rd_sum hr hn hc
theorem sv_3 (e : rN a = n) : staW a (rN a) pm 3 = sm (aP a) n := by rw [e]; exact st_3
theorem sv_4 (e : rN a = n) : staW a (rN a) pm 4 = mxf (fun r => absI (vel (aP a) r - vel (aP a) (r + 1))) (n - 1) := by rw [e]; exact st_4
theorem rv_dye (e : rN a = n) (hc : c < 3) (hL : L < 2) (hr : r < n) (hn : n ≤ 12) (hs : s < 24) : dyeW a (rN a) (nI c) (nI L) (nI r) (nI s) = aD a c (rwi L r + cel a r (nI s)) := by rw [e]; exact rd_dye hc hL hr hn hs
end RN
