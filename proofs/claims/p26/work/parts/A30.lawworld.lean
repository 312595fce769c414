/-! the whole world, put together out of what the constructors leave -/
def sh (t : Nat) (b : zA) : zA := (b.1, t, b.2.2)
def lwG (a0 qs qb qp qt : Nat) (g1 g2 g3 g4 gs : zA → Nat) (b : zA) : Nat := if b.1 = 0 then a0 else if b.1 = 1 then qs else if b.1 = 2 then qb else if b.1 = 3 then qp else if b.1 = 4 then qt else if b.1 < 19 then (if b.2.1 = 0 then g1 (b.1, 0, b.2.2) else if b.2.1 = 1 then g2 (b.1, 0, b.2.2) else if b.2.1 = 2 then g3 (b.1, 0, b.2.2) else g4 (b.1, 0, b.2.2)) else if b.1 = 99 then b.2.1 else gs b
def lwM (μ1 μ2 μ3 μ4 : zM) : zM := fun b => if b.1 < 5 then (fun _ => 0) else if b.1 < 19 then (if b.2.1 = 0 then μ1 (b.1, 0, b.2.2) else if b.2.1 = 1 then μ2 (b.1, 0, b.2.2) else if b.2.1 = 2 then μ3 (b.1, 0, b.2.2) else μ4 (b.1, 0, b.2.2)) else (fun _ => 0)
def cwL : List zA := [(0, 0, 0), (1, 0, 0)] ++ (tkL.map (sh 3) ++ (tkL.map (sh 2) ++ (tkL.map (sh 0) ++ (tkL.map (sh 1) ++ ([(2, 0, 0)] ++ [(3, 0, 0), (4, 0, 0)])))))
theorem cwL_nd : cwL.Nodup := by decide +kernel
theorem cwL_all : ∀ a ∈ zcells, a ∈ cwL := by decide +kernel
theorem yws_app (w1 w2 : List zA) (G : zG) (μ : zM) : yws (w1 ++ w2) G μ = yws w1 G μ ++ yws w2 G μ := List.map_append ..
theorem zP_of {cw : List zA} {G : zG} {μ : zM} {H : Heap} (h : va_P G.2.1 vwCl (yws cw G μ) H) (hs : ∀ a ∈ zcells, a ∈ cw) : zP G μ H := by
  intro k q hq
  have h' : (zcells.map (fun a => (G.1 a, zent G a (μ a))))[k]? = some q := hq
  rw [List.getElem?_map] at h'
  cases hb : zcells[k]? with
  | none => rw [hb] at h'; cases h'
  | some a =>
    rw [hb] at h'
    cases h'
    obtain ⟨j, hj⟩ := List.getElem?_of_mem (hs a (List.mem_of_getElem? hb))
    refine h j _ ?_
    show (cw.map _)[j]? = _
    rw [List.getElem?_map, hj]
    rfl
section LWW
variable (a0 qs qb qp qt : Nat) (g1 g2 g3 g4 gs : zA → Nat) (μ1 μ2 μ3 μ4 : zM) (D2 : va_G × (Nat → ClassId))
theorem lw_t0 : yws tkL (g1, D2) μ1 = yws (tkL.map (sh 0)) (lwG a0 qs qb qp qt g1 g2 g3 g4 gs, D2) (lwM μ1 μ2 μ3 μ4) := rfl
theorem lw_t1 : yws tkL (g2, D2) μ2 = yws (tkL.map (sh 1)) (lwG a0 qs qb qp qt g1 g2 g3 g4 gs, D2) (lwM μ1 μ2 μ3 μ4) := rfl
theorem lw_t2 : yws tkL (g3, D2) μ3 = yws (tkL.map (sh 2)) (lwG a0 qs qb qp qt g1 g2 g3 g4 gs, D2) (lwM μ1 μ2 μ3 μ4) := rfl
theorem lw_t3 : yws tkL (g4, D2) μ4 = yws (tkL.map (sh 3)) (lwG a0 qs qb qp qt g1 g2 g3 g4 gs, D2) (lwM μ1 μ2 μ3 μ4) := rfl
def dtEnt2 : va_W := (((([(a0, .inr (3, [.ref (g1 (5, 0, 0)), .ref (g2 (5, 0, 0)), .ref qs, .ref qb, .ref qp])), (qs, .inl (D2.2 3, 2, .inr (.inr (.inr (.inr (fun j => some (lwG a0 qs qb qp qt g1 g2 g3 g4 gs (5, 2 + j, 0))))))))] ++ yws tkL (g4, D2) μ4) ++ (yws tkL (g3, D2) μ3 ++ (yws tkL (g1, D2) μ1 ++ yws tkL (g2, D2) μ2))) ++ [(qb, .inl (D2.2 1, 2, .inl (fun _ => 0)))]) ++ [(qp, .inr (1, [.int 0, .int 0, .int 0, .int 0, .int 0, .int 0, .int 0, .int 0, .ref qt])), (qt, .inl (D2.2 2, 60, .inl (fun _ => 0)))])
theorem lw_world : dtEnt2 a0 qs qb qp qt g1 g2 g3 g4 gs μ1 μ2 μ3 μ4 D2 = yws cwL (lwG a0 qs qb qp qt g1 g2 g3 g4 gs, D2) (lwM μ1 μ2 μ3 μ4) := by
  unfold dtEnt2 cwL
  rw [lw_t0 a0 qs qb qp qt g1 g2 g3 g4 gs μ1 μ2 μ3 μ4 D2, lw_t1 a0 qs qb qp qt g1 g2 g3 g4 gs μ1 μ2 μ3 μ4 D2, lw_t2 a0 qs qb qp qt g1 g2 g3 g4 gs μ1 μ2 μ3 μ4 D2, lw_t3 a0 qs qb qp qt g1 g2 g3 g4 gs μ1 μ2 μ3 μ4 D2]
  rw [yws_app, yws_app, yws_app, yws_app, yws_app, yws_app]
  rw [List.append_assoc, List.append_assoc, List.append_assoc, List.append_assoc, List.append_assoc]
  rfl
theorem lw_O (h1 : T0 μ1 0) : OK (lwM μ1 μ2 μ3 μ4) (beg 6) (fun _ => none) 0 := by
  obtain ⟨b0, b1, b2, bS, bP, bA, bT, bD⟩ := h1
  have h0 : Rep (lwM μ1 μ2 μ3 μ4) 0 (beg 6) := by
    refine ⟨⟨b0, b1, b2⟩, fun j hj => (bS j hj).trans (beg_S 6 hj), fun r hr => (bP r hr).trans (beg_0 6 (by omega)).symm, fun r hr => (bA r hr).trans (beg_0 6 (by omega)).symm, fun c hc => (bT c hc).trans (allA_0 (fun i => beg_0 6 (by omega)) _).symm, fun c hc i hi => (bD c hc i hi).trans (beg_0 6 (by omega)).symm, fun m hm => ?_⟩
    exact absurd hm (by show ¬ m < (beg 6 33).toNatClampNeg; rw [beg_0 6 (by omega)]; show ¬ m < 0; omega)
  exact ⟨h0, Full_beg (by decide), fun i hi => ⟨fun _ => rfl, fun b hb => by cases hb⟩, by omega, 0, nI_0.symm, nI_0.symm, fun i _ => ⟨0, by omega, nI_0.symm⟩⟩
end LWW
