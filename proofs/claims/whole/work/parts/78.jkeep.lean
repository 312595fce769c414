/-! how a pair of calls keeps J -/
theorem zCt.imp {y : MethodName} {cc : ByteArray} {nL d : Nat} {ret : Option FieldType} {av : List zV} {μ : zM} {Po Po' : zM → zV → Prop} (h : zCt y cc nL ret d av μ Po) (hp : ∀ μ' r, Po μ' r → Po' μ' r) : zCt y cc nL ret d av μ Po' := fun l G =>
  MetFree.mono (h l G) (fun _ _ q => q) (fun _ _ _ _ _ q => q) (fun _ _ _ _ _ q => ⟨by
    obtain ⟨μ', r, h1, h2, h3⟩ := q.1
    exact ⟨μ', r, h1, hp _ _ h2, h3⟩, q.2⟩)
theorem zCi.two {yx ym : MethodName} {cx cm : ByteArray} {nx nm dx dm : Nat} {rx rm : Option FieldType} {ax am : List zV} {μ : zM} {v : Int32} (hx : zCi yx cx nx rx dx ax μ v) (hm : zCi ym cm nm rm dm am μ v) (h : J μ) : zCs yx cx nx rx dx ax μ (fun μ1 w => zCs ym cm nm rm dm am μ1 (fun μ2 u => u = w ∧ J μ2)) :=
  zCt.imp hx (fun μ1 r q => by
    obtain ⟨rfl, rfl⟩ := q
    exact ⟨v, rfl, zCt.imp hm (fun μ2 r q => by
      obtain ⟨rfl, rfl⟩ := q
      exact ⟨v, rfl, rfl, h⟩)⟩)
theorem zCs.two {yx ym : MethodName} {cx cm : ByteArray} {nx nm dx dm : Nat} {rx rm : Option FieldType} {ax am : List zV} {μ : zM} {P : zM → Int32 → Prop} (hx : zCs yx cx nx rx dx ax μ P) (hm : ∀ μ1 w, P μ1 w → ∃ Q : zM → Int32 → Prop, zCs ym cm nm rm dm am μ1 Q ∧ ∀ μ2 u, Q μ2 u → u = w ∧ J μ2) : zCs yx cx nx rx dx ax μ (fun μ1 w => zCs ym cm nm rm dm am μ1 (fun μ2 u => u = w ∧ J μ2)) :=
  zCt.imp hx (fun μ1 r q => by
    obtain ⟨w, rfl, hp⟩ := q
    obtain ⟨Q, h1, h2⟩ := hm μ1 w hp
    exact ⟨w, rfl, zCt.imp h1 (fun μ2 r q => by
      obtain ⟨u, rfl, hq⟩ := q
      exact ⟨u, rfl, h2 μ2 u hq⟩)⟩)
/-- nothing but the tank and its copy changed -/
def zo01 (μ μ' : zM) : Prop := ∀ b : zA, (2 ≤ b.2.1 ∨ b.1 < 5 ∨ 18 < b.1) → μ' b = μ b
theorem zoT.o01 {t : Nat} {μ μ' : zM} (h : zoT t μ μ') (ht : t < 2 := by decide) : zo01 μ μ' := fun b hb => h b (by
  rcases hb with q | q | q
  · exact Or.inl (by omega)
  · exact Or.inr (Or.inl q)
  · exact Or.inr (Or.inr q))
theorem zo01.at (μ μ' : zM) (h : zo01 μ μ') (k : Nat) (hk : k < 5 ∨ 18 < k) : μ' (k, 0, 0) = μ (k, 0, 0) := h (k, 0, 0) (Or.inr hk)
theorem Full_IB {a : Nat → Int32} (h : Full a) : IB a := h.choose_spec.2.2.1.1
theorem J_row {μ μ1 μ2 : zM} {b : Nat → Int32} (h : J μ) (hz : zo01 μ μ1) (hR : Rep μ1 0 b) (hF : Full b) (hm : zoff [(21, 0, 0), (22, 0, 0), (25, 0, 0), (26, 0, 0)] μ1 μ2) (he : ∀ k, k < 2386 → μ2 (21, 0, 0) k = b k) : J μ2 := by
  obtain ⟨_, _, hS, hP⟩ := h
  have hB := Full_IB hF
  have fr : ∀ k t i : Nat, (2 ≤ t ∨ ((k < 5 ∨ 18 < k) ∧ k ≠ 21 ∧ k ≠ 22 ∧ k ≠ 25 ∧ k ≠ 26)) → μ2 (k, t, i) = μ (k, t, i) := fun k t i q => (hm (k, t, i) (fun q2 => by simp at q2; omega)).trans (hz (k, t, i) (by show 2 ≤ t ∨ k < 5 ∨ 18 < k; omega))
  have hR2 : Rep μ2 0 b := Rep_frame hR (fun k i h5 h18 => hm (k, 0, i) (fun q2 => by simp at q2; omega))
  refine ⟨Rep_row hR2 hB.2.2.1 hB.2.2.2.2 he, Full_row hF he, JS_frame hS (fun k t i q => fr k t i (by omega)), JP_frame hP (fr 3 0 0 (by omega)) (fr 4 0 0 (by omega)) (fr 20 0 0 (by omega)) (fr 27 0 0 (by omega))⟩
theorem J_same {μ μ1 μ2 : zM} (h : J μ) (hz : zoT 1 μ μ1) (hm : zoff [(21, 0, 0), (22, 0, 0), (25, 0, 0), (26, 0, 0)] μ1 μ2) (he : ∀ k, k < 2386 → μ2 (21, 0, 0) k = μ1 (21, 0, 0) k) : J μ2 :=
  J_row h (zoT.o01 hz) (Rep_frame h.1 (fun k i _ _ => hz (k, 0, i) (Or.inl (by show (0 : Nat) ≠ 1; decide)))) h.2.1 hm (fun k hk => by rw [he k hk, hz (21, 0, 0) (Or.inr (Or.inr (by decide)))])
theorem zoT21 {t : Nat} {μ μ1 : zM} (h : zoT t μ μ1) : μ1 (21, 0, 0) = μ (21, 0, 0) := h (21, 0, 0) (Or.inr (Or.inr (by decide)))
theorem zoff.of21 {μ1 μ2 : zM} {S : List zA} (h : zoff S μ1 μ2) (hs : ∀ a ∈ S, a ∈ [(21, 0, 0), (22, 0, 0), (25, 0, 0), (26, 0, 0)]) : zoff [(21, 0, 0), (22, 0, 0), (25, 0, 0), (26, 0, 0)] μ1 μ2 := h.sub hs
theorem zoff_st21 (μ : zM) (f : Nat → Int32) : zoff [(21, 0, 0), (22, 0, 0), (25, 0, 0), (26, 0, 0)] μ (st μ (21, 0, 0) f) := zoff.rf.put (by simp) f
theorem Full_W {a : Nat → Int32} (h : Full a) : ∀ k, k ≤ 1000 → Wf (itF k a) := fun k hk => ((Full_Gd h).1.1 k hk).1
theorem Full_kept {a : Nat → Int32} (h : Full a) : ∀ m, m < rK a → ∃ g, g < 2 ^ 30 ∧ a (36 + 104 * m) = nI g := by
  obtain ⟨t, ht, h1, ⟨hB, hS, hD, hM⟩, hG, hP⟩ := h
  intro m hm
  obtain ⟨p, g, _, hg, _, e⟩ := hM m hm
  exact ⟨g, by omega, e⟩
