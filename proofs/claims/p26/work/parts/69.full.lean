/-! what every row of a run is -/
def Full (a : Nat → Int32) : Prop := ∃ t : Nat, t ≤ 100000 ∧ a 1 = nI t ∧ Inv a t ∧ IG a ∧ IP a t
theorem Full_Gd {a : Nat → Int32} (h : Full a) : Gd a ∧ ∃ t, t ≤ 100000 ∧ Inv a t ∧ a 1 = nI t := by
  obtain ⟨t, ht, h1, hI, hG, hP⟩ := h
  refine ⟨⟨fun k hk => ⟨Inv_Wf (t := t + k) (by omega) (Inv_it hI k (by omega)), ?_⟩, fun r hr => ?_, fun c hc => ?_⟩, t, ht, hI, h1⟩
  · rw [it_time h1 k]
    exact nI_pos' (by omega)
  · have hn := hI.1.2.2.1
    have := VB_v hP (by omega) (show r < 12 by omega)
    rw [Int32.lt_iff_toInt_lt, show (-1000000000 : Int32).toInt = -1000000000 by decide]
    omega
  · have := DI_all hI.1.2.2.1 (hI.2.2.1 c hc)
    exact ⟨this.1, this.2.1⟩
theorem Full_it {a : Nat → Int32} (h : Full a) {M : Nat} (hM : M ≤ 1000) (h2 : a 1 + nI M ≤ 100000) : Full (itF M a) := by
  obtain ⟨t, ht, h1, hI, hG, hP⟩ := h
  rw [h1, nI_add] at h2
  have h3 : t + M ≤ 100000 := nle (b := 100000) h2
  exact ⟨t + M, h3, it_time h1 M, Inv_it hI M (by omega), IG_it hG M, IP_it hI hP M (by omega)⟩
