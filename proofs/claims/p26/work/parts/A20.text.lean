/-! the law's text -/
def tdL (T R V : Nat) : List Int32 := [116, nI (48 + T), 44, 118, nI (48 + R), 58, 45, nI (48 + V), 44, 100, 99, 95, nI (48 + R), 58, 55, 61, 53]
def tdF (T R V : Nat) : Nat → Int32 := fun i => (tdL T R V).getD i 0
def tdB (T R V : Nat) : Bool := decide (fauP (chr (tdF T R V) 17) 17 = -6) && decide ((txtP (chr (tdF T R V) 17) 21 0).2.2 = [[116, nI T], [118, nI R, -nI V], [100, 2, 1, nI R, 7, 5]])
theorem tdB_all : ∀ T, T < 9 → ∀ R, R < 10 → ∀ V, V < 10 → tdB (1 + T) R V = true := by decide +kernel
