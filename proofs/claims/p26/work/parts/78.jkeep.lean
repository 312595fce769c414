/-! what a row of a run is, and how posts are weakened -/
theorem zCt.imp {y : MethodName} {cc : ByteArray} {nL d : Nat} {ret : Option FieldType} {av : List zV} {μ : zM} {Po Po' : zM → zV → Prop} (h : zCt y cc nL ret d av μ Po) (hp : ∀ μ' r, Po μ' r → Po' μ' r) : zCt y cc nL ret d av μ Po' := fun l G =>
  MetFree.mono (h l G) (fun _ _ q => q) (fun _ _ _ _ _ q => q) (fun _ _ _ _ _ q => ⟨by
    obtain ⟨μ', r, h1, h2, h3⟩ := q.1
    exact ⟨μ', r, h1, hp _ _ h2, h3⟩, q.2⟩)
def zo01 (μ μ' : zM) : Prop := ∀ b : zA, (2 ≤ b.2.1 ∨ b.1 < 5 ∨ 18 < b.1) → μ' b = μ b
theorem zoT.o01 {t : Nat} {μ μ' : zM} (h : zoT t μ μ') (ht : t < 2 := by decide) : zo01 μ μ' := fun b hb => h b (by
  rcases hb with q | q | q
  · exact Or.inl (by omega)
  · exact Or.inr (Or.inl q)
  · exact Or.inr (Or.inr q))
theorem zo01.at (μ μ' : zM) (h : zo01 μ μ') (k : Nat) (hk : k < 5 ∨ 18 < k) : μ' (k, 0, 0) = μ (k, 0, 0) := h (k, 0, 0) (Or.inr hk)
theorem Full_IB {a : Nat → Int32} (h : Full a) : IB a := h.choose_spec.2.2.1.1
theorem Full_W {a : Nat → Int32} (h : Full a) : ∀ k, k ≤ 1000 → Wf (itF k a) := fun k hk => ((Full_Gd h).1.1 k hk).1
theorem Full_kept {a : Nat → Int32} (h : Full a) : ∀ m, m < rK a → ∃ g, g < 2 ^ 30 ∧ a (36 + 104 * m) = nI g := by
  obtain ⟨t, ht, h1, ⟨hB, hS, hD, hM⟩, hG, hP⟩ := h
  intro m hm
  obtain ⟨p, g, _, hg, _, e⟩ := hM m hm
  exact ⟨g, by omega, e⟩

