/-! what the Statement gives: the static tables, the classes -/
def ztm (k : Nat) : Term := .static "DyeTank" (znm k) "[I"
theorem lw_stat {s : State} {b : Nat} (hts : ∀ w ∈ lw_tbl, w.before #[Value.ref b] s = true) (hgv : (Jvm.Cond.and given_1 narrow_1).before #[Value.ref b] s = true) (A : Nat → Prop) (hA : ∀ a : Nat, a < s.heap.size → ¬ A a) : ∃ t : Nat → Nat, ∀ k : Nat, (k = 40 ∨ k = 41 ∨ k = 42) → va_Z "DyeTank" (znm k) "[I" (.ref (t k)) A s s.heap ∧ va_T .int (t k) 7 (fun j => .int ((ztab k).getD j 0)) A s s.heap := by
  have hs := flat_of_before _ hgv
  have hini : (Cond.initialized "DyeTank").before #[Value.ref b] s = true := hts _ (List.mem_filter.mp tw_1).1
  obtain ⟨t40, e40, hT40⟩ := va_Tof (args := #[Value.ref b]) (s := s) (tm := .static "DyeTank" "FIRST_SETTING" "[I") (ty := .int) (N := 7) (f := fun j => .int ((ztab 40).getD j 0)) (A := A) (by omega) (hs _ (by decide +kernel)) (va_eqt (z := 7) (hs _ (by decide +kernel))) (fun j hj => by
    rcases (show j = 0 ∨ j = 1 ∨ j = 2 ∨ j = 3 ∨ j = 4 ∨ j = 5 ∨ j = 6 by omega) with rfl | rfl | rfl | rfl | rfl | rfl | rfl
    · exact va_eqt (z := 20) (hs _ (by decide +kernel))
    · exact va_eqt (z := 10) (hs _ (by decide +kernel))
    · exact va_eqt (z := 0) (hs _ (by decide +kernel))
    · exact va_eqt (z := 5) (hs _ (by decide +kernel))
    · exact va_eqt (z := 0) (hs _ (by decide +kernel))
    · exact va_eqt (z := 50) (hs _ (by decide +kernel))
    · exact va_eqt (z := 20) (hs _ (by decide +kernel))) hA
  obtain ⟨t41, e41, hT41⟩ := va_Tof (args := #[Value.ref b]) (s := s) (tm := .static "DyeTank" "LEAST_SETTING" "[I") (ty := .int) (N := 7) (f := fun j => .int ((ztab 41).getD j 0)) (A := A) (by omega) (hs _ (by decide +kernel)) (va_eqt (z := 7) (hs _ (by decide +kernel))) (fun j hj => by
    rcases (show j = 0 ∨ j = 1 ∨ j = 2 ∨ j = 3 ∨ j = 4 ∨ j = 5 ∨ j = 6 by omega) with rfl | rfl | rfl | rfl | rfl | rfl | rfl
    · exact va_eqt (z := 0) (hs _ (by decide +kernel))
    · exact va_eqt (z := 0) (hs _ (by decide +kernel))
    · exact va_eqt (z := -1500) (hs _ (by decide +kernel))
    · exact va_eqt (z := 0) (hs _ (by decide +kernel))
    · exact va_eqt (z := -1500) (hs _ (by decide +kernel))
    · exact va_eqt (z := 0) (hs _ (by decide +kernel))
    · exact va_eqt (z := 0) (hs _ (by decide +kernel))) hA
  obtain ⟨t42, e42, hT42⟩ := va_Tof (args := #[Value.ref b]) (s := s) (tm := .static "DyeTank" "GREATEST_SETTING" "[I") (ty := .int) (N := 7) (f := fun j => .int ((ztab 42).getD j 0)) (A := A) (by omega) (hs _ (by decide +kernel)) (va_eqt (z := 7) (hs _ (by decide +kernel))) (fun j hj => by
    rcases (show j = 0 ∨ j = 1 ∨ j = 2 ∨ j = 3 ∨ j = 4 ∨ j = 5 ∨ j = 6 by omega) with rfl | rfl | rfl | rfl | rfl | rfl | rfl
    · exact va_eqt (z := 100) (hs _ (by decide +kernel))
    · exact va_eqt (z := 100) (hs _ (by decide +kernel))
    · exact va_eqt (z := 1500) (hs _ (by decide +kernel))
    · exact va_eqt (z := 100) (hs _ (by decide +kernel))
    · exact va_eqt (z := 1500) (hs _ (by decide +kernel))
    · exact va_eqt (z := 200) (hs _ (by decide +kernel))
    · exact va_eqt (z := 500) (hs _ (by decide +kernel))) hA
  refine ⟨fun k => if k = 40 then t40 else if k = 41 then t41 else t42, fun k hk => ?_⟩
  rcases hk with rfl | rfl | rfl
  · exact ⟨va_Zof (hts _ tw_63) hini e40 hA, hT40⟩
  · exact ⟨va_Zof (hts _ tw_385) hini e41 hA, hT41⟩
  · exact ⟨va_Zof (hts _ tw_387) hini e42 hA, hT42⟩
theorem arrOfT_of {s : State} {c : ClassId} {k : Class} {comp : ClassId} {ty : FieldType} (h1 : s.vm.classes[c]? = some k) (h2 : k.kind = .array comp ty) : ArrOfT s c ty := fun _ _ => ⟨fun _ h => (by cases h), k, h1, comp, h2⟩
theorem lw_K {s : State} {args : Array Value} (hts : ∀ w ∈ lw_tbl, w.before args s = true) : ∃ (D : va_G) (ids : Nat → ClassId), ∀ gs : zA → Nat, va_K D vwCl (zty (gs, D, ids)) s := by
  have htz : ∀ w ∈ zT, w.before args s = true := fun w hw => hts w (List.mem_filter.mp hw).1
  obtain ⟨c0, i0, k0⟩ := u_known (C := RX0) (T := TX0) (N := 7) (n := 7) htz zin0 (htz _ tw_26)
  obtain ⟨c1, i1, k1⟩ := u_known (C := RX1) (T := TX1) (N := 9) (n := 9) htz zin1 (htz _ tw_118)
  obtain ⟨c2, i2, k2⟩ := u_known (C := RX2) (T := TX2) (N := 12) (n := 12) htz zin2 (htz _ tw_17)
  obtain ⟨c3, i3, k3⟩ := u_known (C := RX3) (T := TX3) (N := 5) (n := 5) htz zin3 (htz _ tw_9)
  obtain ⟨a0, ka0, p0, f0, g0, h0⟩ := Cond.arrayClass_spec (htz _ tw_57)
  obtain ⟨a1, ka1, p1, f1, g1, h1⟩ := Cond.arrayClass_spec (htz _ tw_159)
  obtain ⟨a2, ka2, p2, f2, g2, h2⟩ := Cond.arrayClass_spec (htz _ tw_160)
  obtain ⟨p3, a3, ka3, e3, _, g3, h3, f3⟩ := Cond.arrayOver_spec (hts _ tw_116)
  obtain ⟨p4, a4, ka4, e4, _, g4, h4, f4⟩ := Cond.arrayOver_spec (hts _ tw_25)
  obtain ⟨p5, a5, ka5, e5, _, g5, h5, f5⟩ := arrayOverA_spec (hts _ tw_23)
  refine ⟨(fun k => if k = 0 then c0 else if k = 1 then c1 else if k = 2 then c2 else c3, fun k => if k = 0 then i0 else if k = 1 then i1 else if k = 2 then i2 else i3), fun k => if k = 0 then a0 else if k = 1 then a1 else if k = 2 then a2 else if k = 3 then a3 else if k = 4 then a4 else a5, fun gs => ⟨fun k q hq => ?_, fun k q hq => ?_⟩⟩
  · match k, hq with
    | 0, hq => cases hq; exact k0
    | 1, hq => cases hq; exact k1
    | 2, hq => cases hq; exact k2
    | 3, hq => cases hq; exact k3
    | k + 4, hq => simp [vwCl] at hq
  · match k, hq with
    | 0, hq => cases hq; exact ⟨arrOfT_of g0 h0, f0⟩
    | 1, hq => cases hq; exact ⟨arrOfT_of g1 h1, f1⟩
    | 2, hq => cases hq; exact ⟨arrOfT_of g2 h2, f2⟩
    | 3, hq => cases hq; exact ⟨arrOfT_of g3 h3, ka3, p3, g3, h3, e3, f3⟩
    | 4, hq => cases hq; exact ⟨arrOfT_of g4 h4, ka4, p4, g4, h4, e4, f4⟩
    | 5, hq => cases hq; exact ⟨arrOfT_of g5 h5, f5⟩
    | k + 6, hq => simp [zty] at hq
theorem lw_nTab {s : State} {b : Nat} (hts : ∀ w ∈ lw_tbl, w.before #[Value.ref b] s = true) : nTab s := ⟨va_Nw.of rfl (hts _ tw_62), va_AO.of (hts _ tw_116), va_AO.of (hts _ tw_25), hts _ tw_23⟩
