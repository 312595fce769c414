theorem sum_bound3 {v0 v1 v2 P q0 q1 Y f0 f1 B Fs : Int} (hB : 2000 ≤ B) (h0 : -(6 * B) ≤ 5 * v0 ∧ 5 * v0 ≤ 6 * B) (h1 : -B ≤ v1 ∧ v1 ≤ B) (hv2 : -B ≤ v2 ∧ v2 ≤ B) (h2 : -(2 * B) ≤ v0 + v1 ∧ v0 + v1 ≤ 2 * B) (hP : 3 * v1 ≤ P ∧ P ≤ 3 * v1 + 2) (hY : (0 ≤ -2 * (v0 - v1) - (v1 - v2) → 0 ≤ Y ∧ Y ≤ 100 * (-2 * (v0 - v1) - (v1 - v2))) ∧ (-2 * (v0 - v1) - (v1 - v2) ≤ 0 → 100 * (-2 * (v0 - v1) - (v1 - v2)) ≤ Y ∧ Y ≤ 0)) (hq : -300 ≤ 100 * (-2 * q0 - q1) - Y ∧ 100 * (-2 * q0 - q1) - Y ≤ 300) (hF : -1500 ≤ Fs ∧ Fs ≤ 1500) (hf0 : (0 ≤ Fs - v0 → 0 ≤ f0 ∧ 10 * f0 ≤ Fs - v0) ∧ (Fs - v0 ≤ 0 → Fs - v0 ≤ 10 * f0 ∧ f0 ≤ 0)) (hf1 : (0 ≤ Fs - v1 → 0 ≤ f1 ∧ 10 * f1 ≤ (Fs - v1) * 3) ∧ (Fs - v1 ≤ 0 → (Fs - v1) * 3 ≤ 10 * f1 ∧ f1 ≤ 0)) : -(6 * B) - 12 ≤ 3 * (v0 - q0 + f0) + (P + q0 - q1 + f1) ∧ 3 * (v0 - q0 + f0) + (P + q0 - q1 + f1) ≤ 6 * B + 12 := by
  rcases Int.le_total 0 (-2 * (v0 - v1) - (v1 - v2)) with c | c
  · have a := hY.1 c
    rcases Int.le_total 0 (Fs - v0) with d | d <;> rcases Int.le_total 0 (Fs - v1) with g | g
    · have b := hf0.1 d; have b2 := hf1.1 g; omega
    · have b := hf0.1 d; have b2 := hf1.2 g; omega
    · have b := hf0.2 d; have b2 := hf1.1 g; omega
    · have b := hf0.2 d; have b2 := hf1.2 g; omega
  · have a := hY.2 c
    rcases Int.le_total 0 (Fs - v0) with d | d <;> rcases Int.le_total 0 (Fs - v1) with g | g
    · have b := hf0.1 d; have b2 := hf1.1 g; omega
    · have b := hf0.1 d; have b2 := hf1.2 g; omega
    · have b := hf0.2 d; have b2 := hf1.1 g; omega
    · have b := hf0.2 d; have b2 := hf1.2 g; omega
