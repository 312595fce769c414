theorem sum_bound2 {v0 v1 P q0 l f0 f1 B Fs Ws : Int} (hB : 2000 ≤ B) (h0 : -(6 * B) ≤ 5 * v0 ∧ 5 * v0 ≤ 6 * B) (h1 : -B ≤ v1 ∧ v1 ≤ B) (h2 : -(2 * B) ≤ v0 + v1 ∧ v0 + v1 ≤ 2 * B) (hP : 3 * v1 ≤ P ∧ P ≤ 3 * v1 + 2) (hq : btw q0 (v0 - v1)) (hl : btw l (Ws - v1)) (hW : -1500 ≤ Ws ∧ Ws ≤ 1500) (hF : -1500 ≤ Fs ∧ Fs ≤ 1500) (hf0 : (0 ≤ Fs - v0 → 0 ≤ f0 ∧ 10 * f0 ≤ Fs - v0) ∧ (Fs - v0 ≤ 0 → Fs - v0 ≤ 10 * f0 ∧ f0 ≤ 0)) (hf1 : (0 ≤ Fs - v1 → 0 ≤ f1 ∧ 10 * f1 ≤ (Fs - v1) * 3) ∧ (Fs - v1 ≤ 0 → (Fs - v1) * 3 ≤ 10 * f1 ∧ f1 ≤ 0)) : -(6 * B) - 12 ≤ 3 * (v0 - q0 + f0) + (P + q0 + l + f1) ∧ 3 * (v0 - q0 + f0) + (P + q0 + l + f1) ≤ 6 * B + 12 := by
  rcases Int.le_total 0 (v0 - v1) with c | c
  · have a := hq.1 c
    rcases Int.le_total 0 (Ws - v1) with e | e
    · have a2 := hl.1 e
      rcases Int.le_total 0 (Fs - v0) with d | d <;> rcases Int.le_total 0 (Fs - v1) with g | g
      · have b := hf0.1 d; have b2 := hf1.1 g; omega
      · have b := hf0.1 d; have b2 := hf1.2 g; omega
      · have b := hf0.2 d; have b2 := hf1.1 g; omega
      · have b := hf0.2 d; have b2 := hf1.2 g; omega
    · have a2 := hl.2 e
      rcases Int.le_total 0 (Fs - v0) with d | d <;> rcases Int.le_total 0 (Fs - v1) with g | g
      · have b := hf0.1 d; have b2 := hf1.1 g; omega
      · have b := hf0.1 d; have b2 := hf1.2 g; omega
      · have b := hf0.2 d; have b2 := hf1.1 g; omega
      · have b := hf0.2 d; have b2 := hf1.2 g; omega
  · have a := hq.2 c
    rcases Int.le_total 0 (Ws - v1) with e | e
    · have a2 := hl.1 e
      rcases Int.le_total 0 (Fs - v0) with d | d <;> rcases Int.le_total 0 (Fs - v1) with g | g
      · have b := hf0.1 d; have b2 := hf1.1 g; omega
      · have b := hf0.1 d; have b2 := hf1.2 g; omega
      · have b := hf0.2 d; have b2 := hf1.1 g; omega
      · have b := hf0.2 d; have b2 := hf1.2 g; omega
    · have a2 := hl.2 e
      rcases Int.le_total 0 (Fs - v0) with d | d <;> rcases Int.le_total 0 (Fs - v1) with g | g
      · have b := hf0.1 d; have b2 := hf1.1 g; omega
      · have b := hf0.1 d; have b2 := hf1.2 g; omega
      · have b := hf0.2 d; have b2 := hf1.1 g; omega
      · have b := hf0.2 d; have b2 := hf1.2 g; omega
