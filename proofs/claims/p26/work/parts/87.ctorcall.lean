theorem nPre_blind (G : zG) (ws0 : va_W) (sz : Nat) (av : List Value) : FrameBlind (va_Pc av (nPre G ws0 sz)) := fun a U g mk h => ⟨h.1, h.2.1, va_K.moved (u := U) (U := U.calling g mk a) (Vm.Alike.refl U.vm) h.2.2.1, h.2.2.2.1, h.2.2.2.2.1, zSt.moved (u := U) (U := U.calling g mk a) (Vm.Alike.refl U.vm) h.2.2.2.2.2.1, nTab.same (u := U) (U := U.calling g mk a) rfl h.2.2.2.2.2.2⟩
section NCALLS
variable {K : nK} {d mc ms nL pc : Nat} {own : String} {cc : ByteArray} {ls : List (Nat × Value)} {sk : List Value} {ce sl : Nat}
theorem n_init {y : MethodName} {cc' : ByteArray} {nL' d' mc' ms' idx a : Nat} {ob : va_E} {wr : va_W} {Po : zG → va_W → Prop} (hm : zMt y cc' nL' none 0 ∧ y.name = "<init>" ∧ Cond.instanceMethod y ∈ zT) (hl0 : Cond.methodLink own idx y ∈ zT) (dg : decode cc pc = .ok (.invokespecial idx, 3)) (hC : nCt y cc' nL' d' mc' ms' ob a Po) (hd : d' < d) (h1 : ce + mc' ≤ mc) (h2 : sl + ms' ≤ ms) (hsk : (sk.map fun v => v.category).sum ≤ 8)
    (k : ∀ ws1, Po K.1 ws1 → Nn K d mc ms own cc nL (pc + 3) ls sk (wr ++ ws1) (ce + mc') (sl + ms')) : Nn K d mc ms own cc nL pc ls (.ref a :: sk) (wr ++ [(a, ob)]) ce sl := by
  obtain ⟨G, p, l, e, R, s, m, args, below, meth, c, A, Q⟩ := K
  intro F H locs la hP hD hS hl
  obtain ⟨hx, hb, hml, hown, hts, hK, hA, hSt, hTb, hroom, hfr⟩ := id F
  obtain ⟨⟨hy, hpar, hcode, hini, hnL⟩, hname, hinst⟩ := hm
  obtain ⟨hPc, hDc⟩ := va_right hP hD
  have hF : ∀ q, va_A [(a, ob)] H.size q → A q := by
    intro q hq
    rcases hq with ⟨k2, e2, h⟩ | h
    · exact hDc.2 k2 (q, e2) h
    · exact hA q (Nat.le_trans hS.1 h)
  refine va_callv (va_runI (As := []) (rest := sk) ⟨hx, hb, hml, hown, hts⟩ (hC l G H.size) (cwI 0 hts (z_goodin hcode) rfl rfl rfl (hts _ hini) (hts _ hl0) (hts _ hinst) hname ⟨hy.1, hy.2, hpar⟩ ⟨by show d' + 1 ≤ _; omega, by show _ + 40 * d' ≤ _; omega⟩) ⟨nPre_blind G _ _ _, fun U hU hW => ⟨rfl, by rw [hU], va_K.moved hW.alike hK, by rw [hU]; exact hPc, hDc.weaken (fun _ _ _ _ => trivial), ?_, nTab.warm hW hTb⟩⟩ rfl rfl hl.1 rfl (lv_room hsk) dg ⟨by omega, by omega⟩) hS (fun q _ h => hF q h) hF (fun u t H1 locs1 ht hvm hpo hB hz1 hk1 hS1 => ?_)
  · rw [hU]
    exact zSt.moved hW.alike (zSt.narrow (zSt.kept hSt (H1 := H) hS.2.1) hF)
  · obtain ⟨hP1, hD1⟩ := hB
    rw [ht] at hP1
    obtain ⟨hP2, hD2⟩ := va_joinA hP hD hk1 hF hP1 hD1
    exact k u hpo F H1 locs1 la hP2 hD2 hS1 hl
/-- cells that stand in a world, by their ids -/
theorem yInj_of {wl : List zA} {G : zG} {μ : zM} {A : Nat → Prop} (hnd : wl.Nodup) (hD : va_D A (yws wl G μ)) : yInj wl G ∧ ∀ a ∈ wl, A (G.1 a) := by
  have at' : ∀ {i : Nat} {a : zA}, wl[i]? = some a → (yws wl G μ)[i]? = some (G.1 a, zent G a (μ a)) := fun {i a} h => by
    show (wl.map _)[i]? = _
    rw [List.getElem?_map, h]
    rfl
  refine ⟨⟨hnd, fun a ha b hb e => ?_⟩, fun a ha => ?_⟩
  · obtain ⟨i, hi⟩ := List.getElem?_of_mem ha
    obtain ⟨j, hj⟩ := List.getElem?_of_mem hb
    have hij := hD.1 i j _ _ (at' hi) (at' hj) e
    subst hij
    exact Option.some.inj (hi.symm.trans hj)
  · obtain ⟨i, hi⟩ := List.getElem?_of_mem ha
    exact hD.2 i _ (at' hi)
theorem zSt_G {G G' : zG} {A : Nat → Prop} {U : State} {H : Heap} (h : zSt G A U H) (he : ∀ k : Nat, (k = 40 ∨ k = 41 ∨ k = 42) → G'.1 (k, 0, 0) = G.1 (k, 0, 0)) : zSt G' A U H := fun k hk => by
  rw [he k hk]
  exact h k hk
theorem n_callY {y : MethodName} {cc' : ByteArray} {nL' n idx ci d' : Nat} {gq : zA → Nat} {wl : List zA} {μ : zM} {a : zA} {av : List zV} {wr : va_W} {stk : List Value} {Po : zM → Prop} (hm : zMv ci y cc' nL' none n) (hl0 : Cond.methodLink own idx y ∈ zT) (dg : decode cc pc = .ok (.invokevirtual idx, 3)) (hn : av.length = n) (ho : zobj a.1 = some ci) (hstk : stk = (av.map (zc gq)).reverse ++ .ref (gq a) :: sk) (hd : d' < d) (hsk : (sk.map fun v => v.category).sum ≤ 8) (hnd : wl.Nodup) (ha : a ∈ wl)
    (hg : ∀ k : Nat, (k = 40 ∨ k = 41 ∨ k = 42) → gq (k, 0, 0) = K.1.1 (k, 0, 0)) (hC : yCv wl y cc' nL' none d' (zR a :: av) μ Po)
    (k : ∀ μ', Po μ' → Nn K d mc ms own cc nL (pc + 3) ls sk (wr ++ yws wl (gq, K.1.2) μ') ce sl) (h1 : ce ≤ mc) (h2 : sl ≤ ms) : Nn K d mc ms own cc nL pc ls stk (wr ++ yws wl (gq, K.1.2) μ) ce sl := by
  obtain ⟨G, p, l, e, R, s, m, args, below, meth, c, A, Q⟩ := K
  intro F H locs la hP hD hS hl
  obtain ⟨hx, hb, hml, hown, hts, hK, hA, hSt, hTb, hroom, hfr⟩ := id F
  obtain ⟨⟨hy, hpar, hcode, hini, hnL⟩, hcl, hinst, hsel⟩ := hm
  subst hstk
  obtain ⟨hPc, hDc⟩ := va_right hP hD
  obtain ⟨hinj, hin⟩ := yInj_of hnd hDc
  have hfree : ∀ q, yfree wl (gq, G.2) q → va_A (yws wl (gq, G.2) μ) H.size q := by
    rintro q ⟨b, hb, rfl⟩
    obtain ⟨i, hi⟩ := List.getElem?_of_mem hb
    refine Or.inl ⟨i, zent (gq, G.2) b (μ b), ?_⟩
    show (wl.map _)[i]? = _
    rw [List.getElem?_map, hi]
    rfl
  have hF : ∀ q, va_A (yws wl (gq, G.2) μ) H.size q → A q := by
    intro q hq
    rcases hq with ⟨k2, e2, h⟩ | h
    · exact hDc.2 k2 (q, e2) h
    · exact hA q (Nat.le_trans hS.1 h)
  have hK' : va_K (gq, G.2).2.1 vwCl (zty (gq, G.2)) s := hK
  obtain ⟨q0, hq, hw⟩ := y_at (G := (gq, G.2)) μ ha
  obtain ⟨fs, hfs⟩ := zobj_ent ho (gq, G.2) (μ a)
  rw [hfs] at hw
  cases hvc : vwCl[ci]? with
  | none => rw [hvc] at hcl; cases hcl
  | some q =>
  rw [hvc] at hcl
  have hqc : q.1 = y.cls := Option.some.inj hcl
  have hr := va_runV (p := p) (l := l) (e := e) (R := R) (s := s) (m := m) (args := args) (below := below) (meth := meth) (c := c) (H := H) (locs := locs) (cells := ce) (slots := sl) (g := F0 m pc la ((av.map (zc gq)).reverse ++ .ref (gq a) :: sk)) (rest := sk) (C := y.cls) (As := av.map (zc gq)) ⟨hx, hb, hml, hown, hts⟩ (hC l (gq, G.2)) ⟨callB_of (own := own) n hts (z_goodin hcode) rfl rfl rfl (hts _ hini) (hts _ hl0) ⟨hy.1, hy.2, hpar⟩ ⟨by show d' + 1 ≤ _; omega, by show _ + 40 * d' ≤ _; omega⟩, hts _ hinst, hts _ hsel⟩ ⟨yPre_blind (gq, G.2) μ _, by rw [← hqc]; exact va_recv hK' hPc hvc hw, fun U hU hW => ⟨rfl, va_K.moved hW.alike hK', hinj, by rw [hU]; exact hPc, by
    rw [hU]
    exact zSt_G (G := G) (zSt.moved hW.alike (zSt.narrow (zSt.kept hSt (H1 := H) hS.2.1) (fun q hq => hF q (hfree q hq)))) hg, va_Nw.warmF hW hTb.1⟩⟩ rfl (by rw [List.length_map]; exact hn) hl.1 rfl (lv_room hsk) dg ⟨by omega, by omega⟩
  intro T hT X
  obtain ⟨v, u0, t, T', L, h0, X', hL, e1, e2, ⟨μ', r, hv, ⟨rfl, hp⟩, hb2, hz, hk⟩, stp⟩ := hr T hT X
  cases hv
  rw [h0] at hz hk
  obtain ⟨hP2, hD2⟩ := va_joinA (H1 := T'.heap) (w1 := yws wl (gq, G.2) μ') hP hD (fun q h1 h2 => by rw [e1]; exact hk q h1 (fun z => h2 (hfree q z))) hF (by rw [e1]; exact hb2) (by
    refine ⟨fun i j x y hi hj hxy => ?_, fun k q hq => ?_⟩
    · have at' : ∀ {i : Nat} {x : Nat × va_E}, (yws wl (gq, G.2) μ')[i]? = some x → ∃ b, wl[i]? = some b ∧ x.1 = gq b := fun {i x} h => by
        have h' : (wl.map (fun a => (gq a, zent (gq, G.2) a (μ' a))))[i]? = some x := h
        rw [List.getElem?_map] at h'
        cases hb : wl[i]? with
        | none => rw [hb] at h'; cases h'
        | some b => rw [hb] at h'; cases h'; exact ⟨b, rfl, rfl⟩
      obtain ⟨b1, g1, g2⟩ := at' hi
      obtain ⟨b2, g3, g4⟩ := at' hj
      have : b1 = b2 := hinj.2 b1 (List.mem_of_getElem? g1) b2 (List.mem_of_getElem? g3) (by show gq b1 = gq b2; rw [← g2, ← g4]; exact hxy)
      subst this
      exact (List.getElem?_inj (List.getElem?_eq_some_iff.mp g1).1 hnd).mp (g1.trans g3.symm)
    · have h' : (wl.map (fun a => (gq a, zent (gq, G.2) a (μ' a))))[k]? = some q := hq
      rw [List.getElem?_map] at h'
      cases hb : wl[k]? with
      | none => rw [hb] at h'; cases h'
      | some b =>
        rw [hb] at h'
        cases h'
        exact hfree _ ⟨b, List.mem_of_getElem? hb, rfl⟩)
  obtain ⟨t2, a1, b1⟩ := k μ' hp F T'.heap (locs ++ L) la hP2 hD2
    ⟨Nat.le_trans hS.1 (by rw [e1]; exact hz), fun q h1 h2 => by rw [e1, hk q (Nat.lt_of_lt_of_le h1 hS.1) (fun z => h2 (hF q (hfree q z)))]; exact hS.2.1 q h1 h2, fun q hq => by
      rcases List.mem_append.mp hq with h | h
      · exact hS.2.2 q h
      · exact hF _ (hfree _ (hL q h))⟩ hl T' rfl X'
  exact ⟨t2, stp t2 a1, b1⟩
end NCALLS
/-! Marker() and Pad() -/
def mkEnt (G : zG) (a p q : Nat) : va_W := [(a, .inr (0, [.int 0, .int 0, .int 0, .int 0, .int 0, .ref p, .ref q])), (p, zarI G 50 (fun _ => 0)), (q, zarI G 50 (fun _ => 0))]
def mkNew : va_E := .inr (0, [.int 0, .int 0, .int 0, .int 0, .int 0, .null, .null])
theorem k_Marker (a : Nat) : nCt yX0_init prog_2_method_1_code 1 1 2 100 mkNew a (fun G ws => ∃ p q, ws = mkEnt G a p q) := by
  refine nCt.of "DyeTank$Marker" rfl rfl (by decide +kernel) (by omega) (fun K hN hR => ?_)
  refine n_aload dX0_init_0 rfl 0 rfl ?_
  refine n_obj tw_30 dX0_init_1 (by omega) ?_
  refine n_aload dX0_init_4 rfl 0 rfl ?_
  refine n_bipush (v := 50) dX0_init_5 (by decide) ?_
  refine n_newI (N := 50) dX0_init_7 rfl (by omega) (by omega) (by omega) (fun p => ?_)
  refine n_putF (i := 5) (q0 := 0) (ty := .array .int) zin0 tyX0 tyX0_ok nmX0 rfl hN rfl (by decide) rfl rfl rfl rfl rfl (Nat.le_of_ble_eq_true rfl) tw_40 dX0_init_9 ?_
  refine n_aload dX0_init_12 rfl 0 rfl ?_
  refine n_bipush (v := 50) dX0_init_13 (by decide) ?_
  refine n_newI (N := 50) dX0_init_15 rfl (by omega) (by omega) (by omega) (fun q => ?_)
  refine n_putF (i := 6) (q0 := 0) (ty := .array .int) zin0 tyX0 tyX0_ok nmX0 rfl hN rfl (by decide) rfl rfl rfl rfl rfl (Nat.le_of_ble_eq_true rfl) tw_41 dX0_init_17 ?_
  exact n_vret hR dX0_init_20 rfl rfl ⟨p, q, rfl⟩
def pdNew : va_E := .inr (1, [.int 0, .int 0, .int 0, .int 0, .int 0, .int 0, .int 0, .int 0, .null])
def pdEnt (G : zG) (a p : Nat) : va_W := [(a, .inr (1, [.int 0, .int 0, .int 0, .int 0, .int 0, .int 0, .int 0, .int 0, .ref p])), (p, .inl (G.2.2 2, 60, .inl (fun _ => 0)))]
theorem k_Pad (a : Nat) : nCt yX1_init prog_3_method_1_code 1 1 1 60 pdNew a (fun G ws => ∃ p, ws = pdEnt G a p) := by
  refine nCt.of "DyeTank$Pad" rfl rfl (by decide +kernel) (by omega) (fun K hN hR => ?_)
  refine n_aload dX1_init_0 rfl 0 rfl ?_
  refine n_obj tw_122 dX1_init_1 (by omega) ?_
  refine n_aload dX1_init_4 rfl 0 rfl ?_
  refine n_bipush (v := 60) dX1_init_5 (by decide) ?_
  refine n_newC (N := 60) dX1_init_7 rfl (by omega) (by omega) (by omega) (fun p => ?_)
  refine n_putF (i := 8) (q0 := 0) (ty := .array .char) zin1 tyX1 tyX1_ok nmX1 rfl hN rfl (by decide) rfl rfl rfl rfl rfl (Nat.le_of_ble_eq_true rfl) tw_139 dX1_init_9 ?_
  exact n_vret hR dX1_init_12 rfl rfl ⟨p, rfl⟩
