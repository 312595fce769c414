theorem r0_bound {v0 v1 o f z B Fs : Int} (hB : 2000 ≤ B) (h0 : -(6 * B) ≤ 5 * v0 ∧ 5 * v0 ≤ 6 * B) (h1 : -B ≤ v1 ∧ v1 ≤ B) (ho : btw o (v0 - v1)) (hz : z = Fs - v0) (hF : -1500 ≤ Fs ∧ Fs ≤ 1500) (hf : (0 ≤ z → 0 ≤ f ∧ 10 * f ≤ z) ∧ (z ≤ 0 → z ≤ 10 * f ∧ f ≤ 0)) : -(6 * B) ≤ 5 * (v0 - o + f) ∧ 5 * (v0 - o + f) ≤ 6 * B := by
  rcases Int.le_total 0 (v0 - v1) with c | c
  · have a := ho.1 c
    rcases Int.le_total 0 z with d | d
    · have b := hf.1 d; omega
    · have b := hf.2 d; omega
  · have a := ho.2 c
    rcases Int.le_total 0 z with d | d
    · have b := hf.1 d; omega
    · have b := hf.2 d; omega
theorem r1_bound {v0 v1 P i q x f z B Fs : Int} (hB : 2000 ≤ B) (h0 : -(6 * B) ≤ 5 * v0 ∧ 5 * v0 ≤ 6 * B) (h1 : -B ≤ v1 ∧ v1 ≤ B) (h2 : -(2 * B) ≤ v0 + v1 ∧ v0 + v1 ≤ 2 * B) (hP : 3 * v1 ≤ P ∧ P ≤ 3 * v1 + 2) (hi : btw i (v0 - v1)) (hx : -(v1 + B) ≤ x ∧ x ≤ B - v1) (hq : btw q x) (hz : z = Fs - v1) (hF : -1500 ≤ Fs ∧ Fs ≤ 1500) (hf : (0 ≤ z → 0 ≤ f ∧ 10 * f ≤ z * 3) ∧ (z ≤ 0 → z * 3 ≤ 10 * f ∧ f ≤ 0)) : -(3 * B) ≤ P + i + q + f ∧ P + i + q + f ≤ 3 * B + 2 := by
  have hq2 : -(v1 + B) ≤ q ∧ q ≤ B - v1 := btw_b hq hx h1
  rcases Int.le_total 0 (v0 - v1) with c | c
  · have a := hi.1 c
    rcases Int.le_total 0 z with d | d
    · have b := hf.1 d; omega
    · have b := hf.2 d; omega
  · have a := hi.2 c
    rcases Int.le_total 0 z with d | d
    · have b := hf.1 d; omega
    · have b := hf.2 d; omega
