/-! Tank() -/
theorem q_X0_init : zMt yX0_init prog_2_method_1_code 1 (none : Option Jvm.ClassFile.FieldType) 0 := ⟨⟨by decide +kernel, by decide +kernel⟩, by decide +kernel, tw_29, tw_3, by decide⟩
theorem q_X1_init : zMt yX1_init prog_3_method_1_code 1 (none : Option Jvm.ClassFile.FieldType) 0 := ⟨⟨by decide +kernel, by decide +kernel⟩, by decide +kernel, tw_121, tw_6, by decide⟩
theorem q_X2_init : zMt yX2_init prog_4_method_1_code 2 (none : Option Jvm.ClassFile.FieldType) 0 := ⟨⟨by decide +kernel, by decide +kernel⟩, by decide +kernel, tw_20, tw_2, by decide⟩
theorem q_X3_init : zMt yX3_init prog_1_method_1_code 2 (none : Option Jvm.ClassFile.FieldType) 0 := ⟨⟨by decide +kernel, by decide +kernel⟩, by decide +kernel, tw_12, tw_1, by decide⟩
section NMULTI
variable {K : nK} {d mc ms nL pc : Nat} {own : String} {cc : ByteArray} {ls : List (Nat × Value)} {sk : List Value} {ws : va_W} {ce sl : Nat}
theorem mq_cell (c : ClassId) (h : Nat) : mq_o c h 3 = vp_cell c (3, .inr (.inr (.inr (.inr (fun j => some (h + 1 + j)))))) := by
  rw [vp_cell_q]
  unfold mq_o arrV
  congr 1
theorem mq_celli (c : ClassId) : mq_i c = vp_cell c (576, .inl (fun _ => 0)) := by
  rw [vp_cell_i]
  exact arrV_new c 576 (.int 0)
def mqW (G : zG) (q : Nat) : va_W := [(q, .inl (G.2.2 5, 3, .inr (.inr (.inr (.inr (fun j => some (q + 1 + j))))))), (q + 1, zarI G 576 (fun _ => 0)), (q + 2, zarI G 576 (fun _ => 0)), (q + 3, zarI G 576 (fun _ => 0))]
theorem mqW_at {G : zG} {q k : Nat} {x : Nat × va_E} (h : (mqW G q)[k]? = some x) : x.1 = q + k ∧ ((k = 0 ∧ x.2 = .inl (G.2.2 5, 3, .inr (.inr (.inr (.inr (fun j => some (q + 1 + j))))))) ∨ (∃ j, j < 3 ∧ k = j + 1 ∧ x.2 = zarI G 576 (fun _ => 0))) := by
  unfold mqW at h
  rcases k with _ | _ | _ | _ | k
  · rw [List.getElem?_cons_zero] at h
    rw [← Option.some.inj h]
    exact ⟨rfl, Or.inl ⟨rfl, rfl⟩⟩
  · rw [List.getElem?_cons_succ, List.getElem?_cons_zero] at h
    rw [← Option.some.inj h]
    exact ⟨rfl, Or.inr ⟨0, by omega, rfl, rfl⟩⟩
  · rw [List.getElem?_cons_succ, List.getElem?_cons_succ, List.getElem?_cons_zero] at h
    rw [← Option.some.inj h]
    exact ⟨rfl, Or.inr ⟨1, by omega, rfl, rfl⟩⟩
  · rw [List.getElem?_cons_succ, List.getElem?_cons_succ, List.getElem?_cons_succ, List.getElem?_cons_zero] at h
    rw [← Option.some.inj h]
    exact ⟨rfl, Or.inr ⟨2, by omega, rfl, rfl⟩⟩
  · rw [List.getElem?_cons_succ, List.getElem?_cons_succ, List.getElem?_cons_succ, List.getElem?_cons_succ, List.getElem?_nil] at h
    cases h
theorem n_multi {idx : Nat} (hcl : Cond.classLink own idx "[[I" ∈ zT) (dg : decode cc pc = .ok (.multianewarray idx 2, 4)) (h1 : ce + 4 ≤ mc) (h2 : sl + 1731 ≤ ms) (k : ∀ q, Nn K d mc ms own cc nL (pc + 4) ls (.ref q :: sk) (ws ++ mqW K.1 q) (ce + 4) (sl + 1731)) : Nn K d mc ms own cc nL pc ls (.int 576 :: .int 3 :: sk) ws ce sl := by
  obtain ⟨G, p, l, e, R, s, m, args, below, meth, c, A, Q⟩ := K
  intro F H locs la hP hD hS hl
  obtain ⟨hx, hb, hml, hown, hts, hK, hA, hSt, hTb, hroom, hfr⟩ := id F
  have es : "[" ++ (FieldType.array .int).toString = "[[I" := by decide +kernel
  have h1' : ce + 4 ≤ R.cells := by omega
  have h2' : sl + 1731 ≤ R.slots := by omega
  have hcl' : (Cond.classLink own idx ("[" ++ (FieldType.array .int).toString)).before args s = true := by rw [es]; exact hts _ hcl
  refine W_multi (g := F0 m pc la (.int 576 :: .int 3 :: sk)) (rest := sk) hx hb hown hcl' hTb.2.2.2 (hts _ tw_57) rfl dg rfl h1' h2' (fun cA comp kA kC cc' H1 f1 f2 f3 f4 f5 f6 z1 o1 e0 ei => ?_)
  have eA : cA = G.2.2 5 := Option.some.inj (f1.symm.trans (hK.2 5 _ rfl).2)
  have eC : comp = G.2.2 0 := Option.some.inj (f2.symm.trans (hK.2 0 _ rfl).2)
  rw [eA] at e0
  rw [eC] at ei
  have hP2 : va_P G.2.1 vwCl (mqW G H.size) H1 := by
    intro k x hx
    obtain ⟨g1, g2⟩ := mqW_at hx
    obtain ⟨x1, x2⟩ := x
    have g1' : x1 = H.size + k := g1
    subst g1'
    rcases g2 with ⟨rfl, g2⟩ | ⟨j, hj, rfl, g2⟩
    · have g2' : x2 = _ := g2
      subst g2'
      exact e0.trans (congrArg some (mq_cell _ _))
    · have g2' : x2 = _ := g2
      subst g2'
      have ej := ei j hj
      rw [show H.size + 1 + j = H.size + (j + 1) by omega] at ej
      exact ej.trans (congrArg some (mq_celli _))
  have hD2 : va_D A (mqW G H.size) := by
    refine ⟨fun i j x y hi hj hxy => ?_, fun k x hx => hA _ ?_⟩
    · have e1 := (mqW_at hi).1
      have e2 := (mqW_at hj).1
      omega
    · rw [(mqW_at hx).1]
      have := hS.1
      omega
  refine k H.size F H1 locs la ((hP.kept (fun k x hx => o1 x.1 ((hP k x hx).lt))).app hP2) (va_D.app hD hD2 (fun i j x y hx hy hxy => ?_)) ⟨Nat.le_trans hS.1 (by omega), fun x h1 h2 => (o1 x (Nat.lt_of_lt_of_le h1 hS.1)).trans (hS.2.1 x h1 h2), hS.2.2⟩ hl
  have e1 := (mqW_at hy).1
  have e2 := (hP i x hx).lt
  omega
end NMULTI
