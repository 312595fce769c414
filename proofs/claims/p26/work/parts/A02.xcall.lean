/-! the law's calls -/
theorem q_L_cell : zMs yL_cell method_2_code 2 (some .int) 2 := ⟨⟨⟨by decide +kernel, by decide +kernel⟩, by decide +kernel, tw_187, tw_0, by decide⟩, tw_186⟩
theorem q_L_up : zMs yL_up method_3_code 2 (some .int) 2 := ⟨⟨⟨by decide +kernel, by decide +kernel⟩, by decide +kernel, tw_191, tw_0, by decide⟩, tw_190⟩
theorem q_L_act : zMs yL_act method_5_code 12 (some .boolean) 5 := ⟨⟨⟨by decide +kernel, by decide +kernel⟩, by decide +kernel, tw_195, tw_0, by decide⟩, tw_194⟩
theorem q_L_marched : zMs yL_marched method_6_code 14 (some .boolean) 2 := ⟨⟨⟨by decide +kernel, by decide +kernel⟩, by decide +kernel, tw_227, tw_0, by decide⟩, tw_226⟩
theorem q_L_whole : zMs yL_whole method_7_code 16 (some .boolean) 2 := ⟨⟨⟨by decide +kernel, by decide +kernel⟩, by decide +kernel, tw_399, tw_0, by decide⟩, tw_398⟩
theorem q_L_alone : zMs yL_alone method_8_code 9 (some .boolean) 2 := ⟨⟨⟨by decide +kernel, by decide +kernel⟩, by decide +kernel, tw_436, tw_0, by decide⟩, tw_435⟩
theorem q_L_settled : zMs yL_settled method_9_code 10 (some .boolean) 2 := ⟨⟨⟨by decide +kernel, by decide +kernel⟩, by decide +kernel, tw_456, tw_0, by decide⟩, tw_455⟩
theorem q_L_arrived : zMs yL_arrived method_10_code 11 (some .boolean) 3 := ⟨⟨⟨by decide +kernel, by decide +kernel⟩, by decide +kernel, tw_468, tw_0, by decide⟩, tw_467⟩
theorem q_L_met : zMs yL_met method_11_code 12 (some .boolean) 2 := ⟨⟨⟨by decide +kernel, by decide +kernel⟩, by decide +kernel, tw_477, tw_0, by decide⟩, tw_476⟩
theorem q_L_pumped : zMs yL_pumped method_12_code 13 (some .boolean) 3 := ⟨⟨⟨by decide +kernel, by decide +kernel⟩, by decide +kernel, tw_490, tw_0, by decide⟩, tw_489⟩
theorem q_L_told : zMs yL_told method_13_code 13 (some .boolean) 2 := ⟨⟨⟨by decide +kernel, by decide +kernel⟩, by decide +kernel, tw_501, tw_0, by decide⟩, tw_500⟩
theorem q_L_kept : zMs yL_kept method_14_code 9 (some .boolean) 3 := ⟨⟨⟨by decide +kernel, by decide +kernel⟩, by decide +kernel, tw_584, tw_0, by decide⟩, tw_583⟩
theorem q_L_refused : zMs yL_refused method_15_code 5 (some .boolean) 2 := ⟨⟨⟨by decide +kernel, by decide +kernel⟩, by decide +kernel, tw_587, tw_0, by decide⟩, tw_586⟩
theorem va_P.comm {D : va_G} {cl : List vw_C} {a b : va_W} {H : Heap} (h : va_P D cl (a ++ b) H) : va_P D cl (b ++ a) H := by
  have := va_P.swap (a := []) (b := a) (c := b) (by simpa using h)
  simpa using this
theorem va_D.comm {A : Nat → Prop} {a b : va_W} (h : va_D A (a ++ b)) : va_D A (b ++ a) := by
  have := va_D.swap (A := A) (a := []) (b := a) (c := b) (by simpa using h)
  simpa using this
theorem zInj_of {G : zG} {μ : zM} {A : Nat → Prop} (hD : va_D A (zws G μ)) : zInj G ∧ ∀ a ∈ zcells, A (G.1 a) := by
  refine ⟨fun a ha b hb e => ?_, fun a ha => ?_⟩
  · obtain ⟨i, hi⟩ := List.getElem?_of_mem ha
    obtain ⟨j, hj⟩ := List.getElem?_of_mem hb
    have hij := hD.1 i j _ _ (zws_get hi) (zws_get hj) e
    subst hij
    exact Option.some.inj (hi.symm.trans hj)
  · obtain ⟨i, hi⟩ := List.getElem?_of_mem ha
    exact hD.2 i _ (zws_get hi)
theorem zws_id {G : zG} {μ : zM} {k : Nat} {q : Nat × va_E} (h : (zws G μ)[k]? = some q) : ∃ a, zcells[k]? = some a ∧ q.1 = G.1 a := by
  have h1 : (zcells.map (fun a => (G.1 a, zent G a (μ a))))[k]? = some q := h
  rw [List.getElem?_map] at h1
  cases hb : zcells[k]? with
  | none => rw [hb] at h1; cases h1
  | some b => rw [hb] at h1; cases h1; exact ⟨b, rfl, rfl⟩
theorem zfree_in {G : zG} {μ : zM} {sz q : Nat} (h : zfree G q) : va_A (zws G μ) sz q := by
  obtain ⟨b, hb, rfl⟩ := h
  obtain ⟨i, hi⟩ := List.getElem?_of_mem hb
  exact Or.inl ⟨i, _, zws_get hi⟩
theorem xPre_blind (G : zG) (μ : zM) (E : xE) (sz : Nat) (av : List Value) : FrameBlind (va_Pc av (xPre G μ E sz)) := fun a U g mk h => ⟨h.1, h.2.1, va_K.moved (u := U) (U := U.calling g mk a) (Vm.Alike.refl U.vm) h.2.2.1, h.2.2.2.1, h.2.2.2.2.1, zSt.moved (u := U) (U := U.calling g mk a) (Vm.Alike.refl U.vm) h.2.2.2.2.2.1, nTab.same (u := U) (U := U.calling g mk a) rfl h.2.2.2.2.2.2⟩
section XCALLS
variable {K : xK} {d mc ms nL pc : Nat} {own : String} {cc : ByteArray} {ls sk : List zV} {μ : zM} {E : xE} {ce sl : Nat}
theorem j_callV {y : MethodName} {cc' : ByteArray} {nL' n idx ci d' : Nat} {ret : Option FieldType} {a : zA} {av stk : List zV} {Po : zM → zV → Prop} (hm : zMv ci y cc' nL' ret n) (hl0 : Cond.methodLink own idx y ∈ zT) (dg : decode cc pc = .ok (.invokevirtual idx, 3)) (hn : av.length = n) (ho : zobj a.1 = some ci) (hstk : stk = av.reverse ++ zR a :: sk) (hd : d' < d) (hsk : zsum sk ≤ 8) (hC : zCt y cc' nL' ret d' (zR a :: av) μ Po)
    (k : ∀ (μ' : zM) (r : zV), Po μ' r → Xj K d mc ms own cc nL (pc + 3) ls (zpush r sk) μ' E ce sl) (hv : a ∈ zcells) (h1 : ce ≤ mc) (h2 : sl ≤ ms) : Xj K d mc ms own cc nL pc ls stk μ E ce sl := by
  obtain ⟨G, p, l, e, R, s, m, args, below, meth, c, A, Q⟩ := K
  intro F H locs la hP hD hS hl
  obtain ⟨hx, hb, hml, hown, hts, hK, hA, hSt, hTb, hroom, hfr, hG⟩ := id F
  obtain ⟨⟨hy, hpar, hcode, hini, hnL⟩, hcl, hinst, hsel⟩ := hm
  subst hstk
  have hP0 := va_P.comm hP
  have hD0 := va_D.comm hD
  obtain ⟨hPc, hDc⟩ := va_right hP0 hD0
  obtain ⟨hinj, hin⟩ := zInj_of hDc
  have hF : ∀ q, va_A (zws G μ) H.size q → A q := by
    intro q hq
    rcases hq with ⟨k2, e2, h⟩ | h
    · exact hDc.2 k2 (q, e2) h
    · exact hA q (Nat.le_trans hS.1 h)
  have hfree : ∀ q, zfree G q → va_A (zws G μ) H.size q := fun q h => zfree_in h
  obtain ⟨q0, hq, hw⟩ := z_at (G := G) μ hv
  obtain ⟨fs, hfs⟩ := zobj_ent ho G (μ a)
  rw [hfs] at hw
  cases hvc : vwCl[ci]? with
  | none => rw [hvc] at hcl; cases hcl
  | some q =>
  rw [hvc] at hcl
  have hqc : q.1 = y.cls := Option.some.inj hcl
  have hr := va_runV (p := p) (l := l) (e := e) (R := R) (s := s) (m := m) (args := args) (below := below) (meth := meth) (c := c) (H := H) (locs := locs) (cells := ce) (slots := sl) (g := F0 m pc la ((av.reverse ++ zR a :: sk).map (zc G.1))) (rest := sk.map (zc G.1)) (C := y.cls) (As := av.map (zc G.1)) ⟨hx, hb, hml, hown, hts⟩ (hC l G) ⟨callB_of (own := own) n hts (z_goodin hcode) rfl rfl rfl (hts _ hini) (hts _ hl0) ⟨hy.1, hy.2, hpar⟩ ⟨by show d' + 1 ≤ _; omega, by show _ + 40 * d' ≤ _; omega⟩, hts _ hinst, hts _ hsel⟩ ⟨zPre_blind G μ _, by rw [← hqc]; exact va_recv hK hPc hvc hw, fun U hU hW => ⟨rfl, va_K.moved hW.alike hK, hinj, by rw [hU]; exact hPc, by
    rw [hU]
    exact zSt.moved hW.alike (zSt.narrow (zSt.kept hSt (H1 := H) hS.2.1) (fun q hq => hF q (hfree q hq))), va_Nw.warmF hW hTb.1⟩⟩ rfl (by rw [List.length_map]; exact hn) hl.1 (by show (List.map (zc G.1) _) = _; rw [List.map_append, List.map_reverse]; rfl) (lv_room (by rw [zsum_eq]; exact hsk)) dg ⟨by omega, by omega⟩
  intro T hT X
  obtain ⟨v, u0, t, T', L, h0, X', hL, e1, e2, ⟨μ', r, hvr, hp, hb2, hz, hk⟩, stp⟩ := hr T hT X
  cases hvr
  rw [h0] at hz hk
  obtain ⟨hP2, hD2⟩ := va_joinA (H1 := T'.heap) (w1 := zws G μ') hP0 hD0 (fun q h1 h2 => by rw [e1]; exact hk q h1 (fun z => h2 (hfree q z))) hF (by rw [e1]; exact hb2) (by
    refine ⟨fun i j x y hi hj hxy => ?_, fun k q hq => ?_⟩
    · obtain ⟨b1, g1, g2⟩ := zws_id hi
      obtain ⟨b2, g3, g4⟩ := zws_id hj
      have : b1 = b2 := hinj b1 (List.mem_of_getElem? g1) b2 (List.mem_of_getElem? g3) (by rw [← g2, ← g4]; exact hxy)
      subst this
      exact (List.getElem?_inj (List.getElem?_eq_some_iff.mp g1).1 zcells_nd).mp (g1.trans g3.symm)
    · obtain ⟨b1, g1, g2⟩ := zws_id hq
      rw [g2]
      exact hfree _ ⟨b1, List.mem_of_getElem? g1, rfl⟩)
  obtain ⟨t2, a1, b1⟩ := k μ' r hp F T'.heap (locs ++ L) la (va_P.comm hP2) (va_D.comm hD2)
    ⟨Nat.le_trans hS.1 (by rw [e1]; exact hz), fun q h1 h2 => by rw [e1, hk q (Nat.lt_of_lt_of_le h1 hS.1) (fun z => h2 (hF q (hfree q z)))]; exact hS.2.1 q h1 h2, fun q hq => by
      rcases List.mem_append.mp hq with h | h
      · exact hS.2.2 q h
      · exact hF _ (hfree _ (hL q h))⟩ hl T' rfl X'
  rw [← zret_push] at a1
  exact ⟨t2, stp t2 a1, b1⟩
theorem j_callS {y : MethodName} {cc' : ByteArray} {nL' n idx d' mc' ms' : Nat} {ret : Option FieldType} {av stk : List zV} {Po : zM → xE → zV → Prop} (hm : zMs y cc' nL' ret n) (hl0 : Cond.methodLink own idx y ∈ zT) (dg : decode cc pc = .ok (.invokestatic idx, 3)) (hn : av.length = n) (hstk : stk = av.reverse ++ sk) (hd : d' < d) (hsk : zsum sk ≤ 8) (hC : xCt y cc' nL' ret d' mc' ms' av μ E Po)
    (k : ∀ (μ' : zM) (E' : xE) (r : zV), Po μ' E' r → Xj K d mc ms own cc nL (pc + 3) ls (zpush r sk) μ' E' (ce + mc') (sl + ms')) (h1 : ce + mc' ≤ mc) (h2 : sl + ms' ≤ ms) : Xj K d mc ms own cc nL pc ls stk μ E ce sl := by
  obtain ⟨G, p, l, e, R, s, m, args, below, meth, c, A, Q⟩ := K
  intro F H locs la hP hD hS hl
  obtain ⟨hx, hb, hml, hown, hts, hK, hA, hSt, hTb, hroom, hfr, hG⟩ := id F
  obtain ⟨⟨hy, hpar, hcode, hini, hnL⟩, hstat⟩ := hm
  subst hstk
  have hF : ∀ q, va_A (xW G μ E) H.size q → A q := by
    intro q hq
    rcases hq with ⟨k2, e2, h⟩ | h
    · exact hD.2 k2 (q, e2) h
    · exact hA q (Nat.le_trans hS.1 h)
  have hr := va_runS (p := p) (l := l) (e := e) (R := R) (s := s) (m := m) (args := args) (below := below) (meth := meth) (c := c) (H := H) (locs := locs) (cells := ce) (slots := sl) (g := F0 m pc la ((av.reverse ++ sk).map (zc G.1))) (rest := sk.map (zc G.1)) (As := av.map (zc G.1)) ⟨hx, hb, hml, hown, hts⟩ (hC l G H.size hG) ⟨callB_of (own := own) n hts (z_goodin hcode) rfl rfl rfl (hts _ hini) (hts _ hl0) ⟨hy.1, hy.2, hpar⟩ ⟨by show d' + 1 ≤ _; omega, by show _ + 40 * d' ≤ _; omega⟩, hts _ hstat⟩ ⟨xPre_blind G μ E _ _, fun U hU hW => ⟨rfl, by rw [hU], va_K.moved hW.alike hK, by rw [hU]; exact hP, hD.weaken (fun _ _ _ _ => trivial), by
    rw [hU]
    exact zSt.moved hW.alike (zSt.narrow (zSt.kept hSt (H1 := H) hS.2.1) (fun q hq => hF q hq)), nTab.warm hW hTb⟩⟩ rfl (by rw [List.length_map]; exact hn) hl.1 (by show (List.map (zc G.1) _) = _; rw [List.map_append, List.map_reverse]) (lv_room (by rw [zsum_eq]; exact hsk)) dg ⟨by omega, by omega⟩
  intro T hT X
  obtain ⟨v, u0, t, T', L, h0, X', hL, e1, e2, ⟨μ', E', r, hvr, hp, hb2, hd2, hz, hk⟩, stp⟩ := hr T hT X
  cases hvr
  rw [h0] at hz hk
  obtain ⟨t2, a1, b1⟩ := k μ' E' r hp F T'.heap (locs ++ L) la (by rw [e1]; exact hb2) (hd2.weaken (fun _ q _ h => hF q.1 h))
    ⟨Nat.le_trans hS.1 (by rw [e1]; exact hz), fun q h1 h2 => by rw [e1, hk q (Nat.lt_of_lt_of_le h1 hS.1) (fun z => h2 (hF q z))]; exact hS.2.1 q h1 h2, fun q hq => by
      rcases List.mem_append.mp hq with h | h
      · exact hS.2.2 q h
      · exact hF _ (hL q h)⟩ hl T' rfl X'
  rw [← zret_push] at a1
  exact ⟨t2, stp t2 a1, b1⟩
variable {y : MethodName} {cc' : ByteArray} {nL' n idx ci d' mc' ms' : Nat} {ret : Option FieldType} {a : zA} {av stk : List zV}
theorem j_cVi {x : Int32} (hC : zCi y cc' nL' ret d' (zR a :: av) μ x) (hm : zMv ci y cc' nL' ret n) (hl0 : Cond.methodLink own idx y ∈ zT) (dg : decode cc pc = .ok (.invokevirtual idx, 3)) (hn : av.length = n) (ho : zobj a.1 = some ci) (hstk : stk = av.reverse ++ zR a :: sk) (hd : d' < d) (hsk : zsum sk ≤ 8) (h1 : ce ≤ mc) (h2 : sl ≤ ms) (k : Xj K d mc ms own cc nL (pc + 3) ls (zI x :: sk) μ E ce sl) (hv : a ∈ zcells := by assumption) : Xj K d mc ms own cc nL pc ls stk μ E ce sl :=
  j_callV hm hl0 dg hn ho hstk hd hsk hC (fun μ' r h => by obtain ⟨rfl, rfl⟩ := h; exact k) hv h1 h2
theorem j_cVl {x : Int64} (hC : zCl y cc' nL' ret d' (zR a :: av) μ x) (hm : zMv ci y cc' nL' ret n) (hl0 : Cond.methodLink own idx y ∈ zT) (dg : decode cc pc = .ok (.invokevirtual idx, 3)) (hn : av.length = n) (ho : zobj a.1 = some ci) (hstk : stk = av.reverse ++ zR a :: sk) (hd : d' < d) (hsk : zsum sk ≤ 8) (h1 : ce ≤ mc) (h2 : sl ≤ ms) (k : Xj K d mc ms own cc nL (pc + 3) ls (zL x :: sk) μ E ce sl) (hv : a ∈ zcells := by assumption) : Xj K d mc ms own cc nL pc ls stk μ E ce sl :=
  j_callV hm hl0 dg hn ho hstk hd hsk hC (fun μ' r h => by obtain ⟨rfl, rfl⟩ := h; exact k) hv h1 h2
theorem j_cVs {P : zM → Int32 → Prop} (hC : zCs y cc' nL' ret d' (zR a :: av) μ P) (hm : zMv ci y cc' nL' ret n) (hl0 : Cond.methodLink own idx y ∈ zT) (dg : decode cc pc = .ok (.invokevirtual idx, 3)) (hn : av.length = n) (ho : zobj a.1 = some ci) (hstk : stk = av.reverse ++ zR a :: sk) (hd : d' < d) (hsk : zsum sk ≤ 8) (h1 : ce ≤ mc) (h2 : sl ≤ ms) (k : ∀ (μ' : zM) (x : Int32), P μ' x → Xj K d mc ms own cc nL (pc + 3) ls (zI x :: sk) μ' E ce sl) (hv : a ∈ zcells := by assumption) : Xj K d mc ms own cc nL pc ls stk μ E ce sl :=
  j_callV hm hl0 dg hn ho hstk hd hsk hC (fun μ' r h => by obtain ⟨x, rfl, h⟩ := h; exact k μ' x h) hv h1 h2
/-- a law's method with a pure answer, nothing made, and one with a boolean that is 1 and a new store -/
def xCi (y : MethodName) (cc : ByteArray) (nL : Nat) (ret : Option FieldType) (d : Nat) (av : List zV) (x : Int32) : Prop := ∀ μ E, xCt y cc nL ret d 0 0 av μ E (fun μ' E' r => μ' = μ ∧ E' = E ∧ r = zI x)
def xCs (y : MethodName) (cc : ByteArray) (nL : Nat) (ret : Option FieldType) (d mc ms : Nat) (av : List zV) (μ : zM) (E : xE) (P : zM → xE → Prop) : Prop := xCt y cc nL ret d mc ms av μ E (fun μ' E' r => r = zI 1 ∧ P μ' E')
theorem j_cSi {x : Int32} (hC : xCi y cc' nL' ret d' av x) (hm : zMs y cc' nL' ret n) (hl0 : Cond.methodLink own idx y ∈ zT) (dg : decode cc pc = .ok (.invokestatic idx, 3)) (hn : av.length = n) (hstk : stk = av.reverse ++ sk) (hd : d' < d) (hsk : zsum sk ≤ 8) (h1 : ce ≤ mc) (h2 : sl ≤ ms) (k : Xj K d mc ms own cc nL (pc + 3) ls (zI x :: sk) μ E ce sl) : Xj K d mc ms own cc nL pc ls stk μ E ce sl :=
  j_callS hm hl0 dg hn hstk hd hsk (hC μ E) (fun μ' E' r h => by obtain ⟨rfl, rfl, rfl⟩ := h; exact k) h1 h2
theorem j_cSs {P : zM → xE → Prop} (hC : xCs y cc' nL' ret d' mc' ms' av μ E P) (hm : zMs y cc' nL' ret n) (hl0 : Cond.methodLink own idx y ∈ zT) (dg : decode cc pc = .ok (.invokestatic idx, 3)) (hn : av.length = n) (hstk : stk = av.reverse ++ sk) (hd : d' < d) (hsk : zsum sk ≤ 8) (h1 : ce + mc' ≤ mc) (h2 : sl + ms' ≤ ms) (k : ∀ (μ' : zM) (E' : xE), P μ' E' → Xj K d mc ms own cc nL (pc + 3) ls (zI 1 :: sk) μ' E' (ce + mc') (sl + ms')) : Xj K d mc ms own cc nL pc ls stk μ E ce sl :=
  j_callS hm hl0 dg hn hstk hd hsk hC (fun μ' E' r h => by obtain ⟨rfl, h⟩ := h; exact k μ' E' h) h1 h2
end XCALLS
/-! the script's number -/
def celV (L : Nat) (xs : Nat → Int32) (k : Nat) : Int32 := if k < L then xs k else 73244475 * (nI k + 1499)
theorem c_cell (l : Launch) (b L : Nat) (xs : Nat → Int32) (k : Nat) (hL : L ≤ 260) (hk : k < 2 ^ 31) : Met l yL_cell (.code yL_cell method_2_code 2 (some .int) :: zT) (nrm 1 0 0) (va_Pc [.ref b, .int (nI k)] (fun U => va_X b L xs U U.heap ∧ b < U.heap.size)) (fun _ u oc t => oc = .returned (some (.int (celV L xs k))) ∧ va_F (fun _ => False) u t) 0 0 (fun _ => False) := by
  refine Met.ofWF (cc := method_2_code) (maxL := 2) (ret := some .int) (by decide +kernel) rfl ?_
  intro p e s m args below meth c s₁ B hml hv
  obtain ⟨rfl, hX, hb⟩ := hv
  have hts0 := atoms_spec (ws := .code yL_cell method_2_code 2 (some .int) :: zT) B.pre
  have ho : s.vm.findClass "DyeTankLaw" = some m.cls := findClass_of_methodNamed B.named
  rw [lg_entry_eq]
  have hl : lv_has (entryFrame m ([Value.ref b, Value.int (nI k)] : List Value).toArray 2).locals 2 [(0, .ref b), (1, .int (nI k))] := by
    rw [lg_entry_eq]
    exact lv_entry [.ref b, .int (nI k)] (n := 2) (Nat.le_refl _)
  rw [lg_entry_eq] at hl
  refine lv_iload_n B.exec B.bytes dL_cell_0 rfl (hl.2.2 _ (List.mem_cons_of_mem _ List.mem_cons_self)) ?_
  refine lv_aload_n B.exec B.bytes dL_cell_1 rfl (hl.2.2 _ List.mem_cons_self) ?_
  refine va_slen B.exec B.bytes hX hb (A := fun _ => False) (fun h => h) va_S.rf dL_cell_2 ?_
  have hlt : (Int32.ofNat L ≤ nI k) ↔ L ≤ k := by
    show nI L ≤ nI k ↔ _
    rw [Int32.le_iff_toInt_le, nI_toInt (by omega), nI_toInt hk]
    omega
  refine lv_icmp_ge (tgt := 12) B.exec B.bytes dL_cell_3 (by decide) (fun h => ?_) (fun h => ?_)
  · have h' := hlt.mp h
    refine lv_ldc B.exec B.bytes ho (hts0 _ (List.mem_cons_of_mem _ tw_188)) dL_cell_12 ?_
    refine lv_iload_n B.exec B.bytes dL_cell_14 rfl (hl.2.2 _ (List.mem_cons_of_mem _ List.mem_cons_self)) ?_
    refine lv_sipush (v := 1499) B.exec B.bytes dL_cell_15 (by decide) ?_
    refine lv_iadd B.exec B.bytes dL_cell_18 ?_
    refine lv_imul B.exec B.bytes dL_cell_19 ?_
    exact W.iret B.exec B.bytes B.returns (fun t ht hW => ⟨by rw [celV, if_neg (by omega)], va_S.rf.F ht⟩) (fun q hq => by simp at hq) dL_cell_20 B.notSynchronized
  · have h' : k < L := Nat.not_le.mp (fun q => h (hlt.mpr q))
    refine lv_aload_n B.exec B.bytes dL_cell_6 rfl (hl.2.2 _ List.mem_cons_self) ?_
    refine lv_iload_n B.exec B.bytes dL_cell_7 rfl (hl.2.2 _ (List.mem_cons_of_mem _ List.mem_cons_self)) ?_
    refine va_sld B.exec B.bytes hX hb (A := fun _ => False) (fun h => h) va_S.rf (vp_in_nI h' (by omega)) dL_cell_8 ?_
    rw [nI_clamp hk]
    refine lv_goto (tgt := 20) B.exec B.bytes dL_cell_9 (by decide) ?_
    exact W.iret B.exec B.bytes B.returns (fun t ht hW => ⟨by rw [celV, if_pos h'], va_S.rf.F ht⟩) (fun q hq => by simp at hq) dL_cell_20 B.notSynchronized
def xScr (K : xK) (b L : Nat) (xs : Nat → Int32) : Prop := match K with
  | (_, _, _, _, _, s, _, _, _, _, _, A, _) => va_X b L xs s s.heap ∧ b < s.heap.size ∧ ¬ A b
theorem j_cell {K : xK} {d mc ms nL pc b L k0 idx : Nat} {xs : Nat → Int32} {own : String} {cc : ByteArray} {ls sk : List zV} {μ : zM} {E : xE} {ce sl : Nat} {x : Int32} (hX : xScr K b L xs) (hL : L ≤ 260) (hx : x = nI k0) (hk0 : k0 < 2 ^ 31) (hl0 : Cond.methodLink own idx yL_cell ∈ zT) (dg : decode cc pc = .ok (.invokestatic idx, 3)) (hd : 1 < d) (hsk : zsum sk ≤ 8) (h1 : ce ≤ mc) (h2 : sl ≤ ms) (k : Xj K d mc ms own cc nL (pc + 3) ls (zI (celV L xs k0) :: sk) μ E ce sl) : Xj K d mc ms own cc nL pc ls (zI x :: xR b :: sk) μ E ce sl := by
  obtain ⟨G, p, l, e, R, s, m, args, below, meth, c, A, Q⟩ := K
  intro F H locs la hP hD hS hl
  obtain ⟨hx1, hb, hml, hown, hts, hK, hA, hSt, hTb, hroom, hfr, hG⟩ := id F
  obtain ⟨hX1, hbl, hbA⟩ := hX
  obtain ⟨⟨hy, hpar, hcode, hini, hnL⟩, hstat⟩ := q_L_cell
  subst hx
  have hg : G.1 (99, b, 0) = b := hG b
  have hX2 : va_X b L xs s H := va_X.kept hX1 (hS.2.1 b hbl hbA)
  show W p l e R s m args below meth c H locs ce sl Q (F0 m pc la (.int (nI k0) :: .ref (G.1 (99, b, 0)) :: sk.map (zc G.1)))
  rw [hg]
  have hr := va_runS (p := p) (l := l) (e := e) (R := R) (s := s) (m := m) (args := args) (below := below) (meth := meth) (c := c) (H := H) (locs := locs) (cells := ce) (slots := sl) (g := F0 m pc la (.int (nI k0) :: .ref b :: sk.map (zc G.1))) (rest := sk.map (zc G.1)) (As := [.ref b, .int (nI k0)]) ⟨hx1, hb, hml, hown, hts⟩ (c_cell l b L xs k0 hL hk0) ⟨callB_of (own := own) 2 hts (z_goodin hcode) rfl rfl rfl (hts _ hini) (hts _ hl0) ⟨hy.1, hy.2, hpar⟩ ⟨by show 1 + 1 ≤ _; omega, by show _ + 40 * 1 ≤ _; omega⟩, hts _ hstat⟩ ⟨fun a U g mk h => ⟨h.1, va_X.moved (u := U) (U := U.calling g mk a) (Vm.Alike.refl U.vm) h.2.1, h.2.2⟩, fun U hU hW => ⟨rfl, by rw [hU]; exact va_X.moved hW.alike hX2, by rw [hU]; exact Nat.lt_of_lt_of_le hbl hS.1⟩⟩ rfl rfl hl.1 rfl (lv_room (by rw [zsum_eq]; exact hsk)) dg ⟨by omega, by omega⟩
  intro T hT X
  obtain ⟨v, u0, t, T', L1, h0, X', hL1, e1, e2, ⟨hvr, hz, hk⟩, stp⟩ := hr T hT X
  cases hvr
  rw [h0] at hz hk
  have hkk : ∀ q : Nat, q < H.size → T'.heap[q]? = H[q]? := fun q h => by rw [e1]; exact hk q h (fun z => z)
  obtain ⟨t2, a1, b1⟩ := k F T'.heap (locs ++ L1) la (fun i q h => (hP i q h).kept (hkk q.1 (hP i q h).lt)) hD
    ⟨Nat.le_trans hS.1 (by rw [e1]; exact hz), fun q h1 h2 => by rw [hkk q (Nat.lt_of_lt_of_le h1 hS.1)]; exact hS.2.1 q h1 h2, fun q hq => by
      rcases List.mem_append.mp hq with h | h
      · exact hS.2.2 q h
      · exact (hL1 q h).elim⟩ hl T' rfl X'
  exact ⟨t2, stp t2 a1, b1⟩
/-! up: a number's rest without its sign -/
def upI (v m : Int32) : Int32 := (v &&& 2147483647) - (v &&& 2147483647) / m * m
theorem c_up (v m : Int32) (hm : ¬ m = 0) : xCi yL_up method_3_code 2 (some .int) 1 [zI v, zI m] (upI v m) := fun μ E => by
  refine xCt.of "DyeTankLaw" rfl (by decide +kernel) rfl (Nat.le_of_ble_eq_true rfl) (fun K hR => ?_)
  refine j_iload_n dL_up_0 rfl rfl ?_
  refine j_ldc (v := 2147483647) dL_up_1 tw_192 ?_
  refine j_iand dL_up_3 ?_
  refine j_iload_n dL_up_4 rfl rfl ?_
  refine j_irem dL_up_5 hm ?_
  exact j_iret hR dL_up_6 ⟨rfl, rfl, rfl⟩ (Nat.le_refl _) (Nat.le_refl _)
