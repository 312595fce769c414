/-! the law from its entry -/
section NLAW
variable {K : nK} {d mc ms nL pc : Nat} {own : String} {cc : ByteArray} {sk : List Value} {ws : va_W} {ce sl : Nat}
theorem n_sto1 {t q : Nat} (dg : decode cc pc = .ok (.astore_n 1, 1)) (hn : 1 < nL) (k1 : Nn K d mc ms own cc nL (pc + 1) [(1, .ref q), (0, .ref t)] sk ws ce sl) : Nn K d mc ms own cc nL pc [(0, .ref t)] (.ref q :: sk) ws ce sl := by
  obtain ⟨G, p, l, e, R, s, m, args, below, meth, c, A, Q⟩ := K
  intro F H locs la hP hD hS hl
  exact lv_astore_n (lv' := [(1, .ref q), (0, .ref t)]) F.1 F.2.1 dg rfl hl hn rfl (fun la' hl' => k1 F H locs la' hP hD hS hl')
end NLAW
/-- from the world of the constructor to the store -/
theorem n_toX {p : Program} {l : Launch} {e : Env} {R : Room} {s : State} {m : MethodId} {args : Array Value} {below : List Frame} {meth : Method} {c : Code} {A : Nat → Prop} {Q : State → Prop} {D2 : va_G × (Nat → ClassId)} {a0 qs qb qp qt b : Nat} {g1 g2 g3 g4 gs : zA → Nat} {μ1 μ2 μ3 μ4 : zM} {d mc ms nL pc : Nat} {own : String} {cc : ByteArray} {ce sl : Nat}
    (hZ : Xj ((lwG a0 qs qb qp qt g1 g2 g3 g4 gs, D2), p, l, e, R, s, m, args, below, meth, c, A, Q) d mc ms own cc nL pc [xR b, zR (0, 0, 0), zN, zN, zN, zN, zN] [] (lwM μ1 μ2 μ3 μ4) [] ce sl) :
    Nn ((gs, D2), p, l, e, R, s, m, args, below, meth, c, A, Q) d mc ms own cc nL pc [(1, .ref a0), (0, .ref b)] [] (dtEnt2 a0 qs qb qp qt g1 g2 g3 g4 gs μ1 μ2 μ3 μ4 D2) ce sl := by
  intro F H locs la hP hD hS hl
  obtain ⟨hx, hb, hml, hown, hts, hK, hA, hSt, hTb, hroom, hfr⟩ := F
  rw [lw_world] at hP hD
  obtain ⟨hinj, hin⟩ := yInj_of cwL_nd hD
  refine hZ ⟨hx, hb, hml, hown, hts, hK, hA, zSt_G (G := (gs, D2)) hSt (fun k hk => by rcases hk with rfl | rfl | rfl <;> rfl), hTb, hroom, hfr, fun a => rfl⟩ H locs la ?_ ?_ hS ?_
  · show va_P _ vwCl (zws _ _ ++ []) H
    rw [List.append_nil]
    exact zP_of hP cwL_all
  · show va_D A (zws _ _ ++ [])
    rw [List.append_nil]
    exact z_D (fun a ha b hb2 => hinj.2 a (cwL_all a ha) b (cwL_all b hb2)) (fun a ha => hin a (cwL_all a ha))
  · refine lv_less hl (fun q hq => ?_)
    have hq' : q ∈ [(0, Value.ref b), (1, .ref a0)] := hq
    simp only [List.mem_cons, List.not_mem_nil, or_false] at hq' ⊢
    rcases hq' with h | h
    · exact Or.inr h
    · exact Or.inl h
theorem g_end {G : zG} {p : Program} {l : Launch} {e : Env} {s : State} {m : MethodId} {below : List Frame} {meth : Method} {c : Code} {b : Nat} (hr : meth.sig.returnType = ret) (hlocks : meth.locks = false) (ls : List zV) (μ : zM) (E : xE) (ce sl : Nat) (hce : ce ≤ 600000) (hsl : sl ≤ 7302250) : Xj (G, p, l, e, room_1, s, m, #[Value.ref b], below, meth, c, (fun q : Nat => s.heap.size ≤ q), lw_Z below #[Value.ref b] s) 10 600000 7302250 "DyeTankLaw" code 7 240 ls [] μ E ce sl := by
  intro F H locs la hP hD hS hl
  refine lv_iconst (v := 1) F.1 F.2.1 dL_law_240 (by decide) ?_
  refine lv_goto (tgt := 245) F.1 F.2.1 dL_law_241 (by decide) ?_
  refine va_forget (fun q hq => hS.2.2 q hq) ?_
  refine W.widen (k := 600000) (n := 7302250) hce hsl ?_
  exact lw_ret F.1 F.2.1 hr hlocks dL_law_245
set_option maxHeartbeats 4000000 in
set_option maxRecDepth 100000 in
theorem whole_start {p : Program} {e : Env} {s : State} {m : MethodId} {below : List Frame} {meth : Method} {c : Code} (l : Launch) (hflags : l.flags = flags0) {b L : Nat} {xs : Nat → Int32} (hL : L ≤ 260) (C0 : lw_At p s m meth c b L xs) : W p l e room_1 s m #[Value.ref b] below meth c s.heap [] 0 0 (lw_Z below #[Value.ref b] s) (entryFrame m ([Value.ref b] : List Value).toArray 7) := by
  obtain ⟨hx, hb, hr, hml, hown, hts, hX, hbl, hlocks, hgv⟩ := id C0
  have hA0 : ∀ a : Nat, a < s.heap.size → ¬ (fun q : Nat => s.heap.size ≤ q) a := fun a ha => Nat.not_le.mpr ha
  obtain ⟨tt, hst⟩ := lw_stat hts hgv _ hA0
  obtain ⟨D, ids, hKf⟩ := lw_K hts
  have htz : ∀ w ∈ zT, w.before #[Value.ref b] s = true := fun w hw => hts w (List.mem_filter.mp hw).1
  obtain ⟨gs, hgs⟩ : ∃ gs : zA → Nat, gs = fun a => tt a.1 := ⟨_, rfl⟩
  have hSt : zSt (gs, D, ids) (fun q : Nat => s.heap.size ≤ q) s s.heap := fun k hk => by
    have e : (gs, D, ids).1 (k, 0, 0) = tt k := by
      show gs (k, 0, 0) = tt k
      rw [hgs]
    rw [e]
    exact hst k hk
  have hF : nF ((gs, D, ids), p, l, e, room_1, s, m, #[Value.ref b], below, meth, c, (fun q : Nat => s.heap.size ≤ q), lw_Z below #[Value.ref b] s) 10 600000 7302250 "DyeTankLaw" code 7 := ⟨hx, hb, hml, hown, htz, hKf gs, fun _ h => h, hSt, lw_nTab hts, ⟨Nat.le_of_ble_eq_true rfl, Nat.le_of_ble_eq_true rfl⟩, ⟨Nat.le_of_ble_eq_true rfl, Nat.le_of_ble_eq_true rfl⟩⟩
  have main : Nn ((gs, D, ids), p, l, e, room_1, s, m, #[Value.ref b], below, meth, c, (fun q : Nat => s.heap.size ≤ q), lw_Z below #[Value.ref b] s) 10 600000 7302250 "DyeTankLaw" code 7 0 [(0, .ref b)] [] [] 0 0 := by
    refine n_new (ws := []) (fs := [.null, .null, .null, .null, .null]) zin3 tyX3 tyX3_ok (ci := 3) rfl tw_8 tw_9 tw_1 (fun j hj => by rcases (show j = 0 ∨ j = 1 ∨ j = 2 ∨ j = 3 ∨ j = 4 by omega) with rfl | rfl | rfl | rfl | rfl <;> rfl) (by omega) (by omega) dL_law_0 (fun a0 => ?_)
    refine n_dup dL_law_3 ?_
    refine n_init (ob := dtNew) (wr := []) ⟨q_X3_init, rfl, tw_11⟩ tw_10 dL_law_4 (k_DyeTank a0) (by omega) (by omega) (by omega) (Nat.le_of_ble_eq_true rfl) (fun ws1 hw => ?_)
    obtain ⟨qs, qb, qp, qt, g1, g2, g3, g4, μ1, μ2, μ3, μ4, hT1, hT2, hT3, hT4, rfl⟩ := hw
    refine n_sto1 dL_law_7 (by decide) ?_
    refine n_refs (q0 := 1) (f' := fun j => some (lwG a0 qs qb qp qt g1 g2 g3 g4 gs (5, 2 + j, 0))) rfl (fun j hj => by rcases (show j = 0 ∨ j = 1 by omega) with rfl | rfl <;> rfl) ?_
    refine n_ws (ws' := dtEnt2 a0 qs qb qp qt g1 g2 g3 g4 gs μ1 μ2 μ3 μ4 (D, ids)) rfl ?_
    refine n_toX ?_
    exact k_law (xs := xs) (L := L) (b := b) ⟨hX, hbl, by show ¬ s.heap.size ≤ b; omega⟩ hL (fun ls μ E ce sl h1 h2 => g_end hr hlocks ls μ E ce sl h1 h2) (lw_O μ1 μ2 μ3 μ4 hT1) _ _ (Nat.le_of_ble_eq_true rfl) (Nat.le_of_ble_eq_true rfl)
  rw [lg_entry_eq]
  refine main hF s.heap [] _ (fun k q h => by simp at h) ⟨fun i j p q h => by simp at h, fun k q h => by simp at h⟩ va_S.rf ?_
  exact lv_entry ([.ref b]) (n := 7) (Nat.le_of_ble_eq_true rfl)
