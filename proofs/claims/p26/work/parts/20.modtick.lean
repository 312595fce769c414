theorem gv_congrA {D A A' : Nat → Int32} {L r tg : Nat} {s : Int32} {m i : Nat} (h1 : A r = A' r) (h2 : A tg = A' tg) : gv D A L r tg s m i = gv D A' L r tg s m i := by
  unfold gv
  refine sm_congr m (fun j _ => ?_)
  unfold jj sec
  rw [h1, h2]
theorem rmv_congrA {D A A' : Nat → Int32} {n L r : Nat} {x : Int32} {i : Nat} (hr : r < n) (_hn : 0 < n) (h : ∀ j, j < n → A j = A' j) : rmv D A n L r x i = rmv D A' n L r x i := by
  unfold rmv
  split
  · rfl
  · cases hg : tgo (inw L x) r n with
    | none => rfl
    | some tg =>
      have htg : tg < n := by
        unfold tgo at hg
        split at hg
        · split at hg
          · cases hg
          · cases hg; omega
        · split at hg
          · cases hg; omega
          · cases hg
      exact gv_congrA (h r hr) (h tg htg)
