/-! constructors: the judgement over an explicit world that grows -/
theorem va_joinA {A0 : Nat → Prop} {D : va_G} {cl : List vw_C} {wr wc w1 : va_W} {H H1 : Heap} (hP : va_P D cl (wr ++ wc) H) (hD : va_D A0 (wr ++ wc))
    (hk : ∀ q : Nat, q < H.size → ¬ va_A wc H.size q → H1[q]? = H[q]?) (hF : ∀ q, va_A wc H.size q → A0 q) (hP1 : va_P D cl w1 H1) (hD1 : va_D (va_A wc H.size) w1) : va_P D cl (wr ++ w1) H1 ∧ va_D A0 (wr ++ w1) := by
  have left : ∀ (k : Nat) (q : Nat × va_E), wr[k]? = some q → (wr ++ wc)[k]? = some q := fun k q hq => by
    rw [List.getElem?_append_left (List.getElem?_eq_some_iff.mp hq).1]
    exact hq
  have apart : ∀ (k : Nat) (q : Nat × va_E), wr[k]? = some q → q.1 < H.size ∧ ¬ va_A wc H.size q.1 := by
    intro k q hq
    have hlk := (List.getElem?_eq_some_iff.mp hq).1
    have h2 := left k q hq
    have hl := (hP k q h2).lt
    refine ⟨hl, fun h => ?_⟩
    rcases h with ⟨k2, e, h⟩ | h
    · have h3 : (wr ++ wc)[wr.length + k2]? = some (q.1, e) := by
        rw [List.getElem?_append_right (by omega), Nat.add_sub_cancel_left]
        exact h
      have := hD.1 _ _ _ _ h2 h3 rfl
      omega
    · omega
  have hDr : va_D A0 wr := ⟨fun i j p q hp hq e => hD.1 i j p q (left i p hp) (left j q hq) e, fun k q h => hD.2 k q (left k q h)⟩
  refine ⟨va_P.app (fun k q hq => ?_) hP1, va_D.app hDr (hD1.weaken (fun k q _ h => hF q.1 h)) (fun i j x y hx hy hxy => (apart i x hx).2 (by rw [hxy]; exact hD1.2 j y hy))⟩
  obtain ⟨g1, g2⟩ := apart k q hq
  exact (hP k q (left k q hq)).kept (hk q.1 g1 g2)
theorem va_right {A0 : Nat → Prop} {D : va_G} {cl : List vw_C} {wr wc : va_W} {H : Heap} (hP : va_P D cl (wr ++ wc) H) (hD : va_D A0 (wr ++ wc)) : va_P D cl wc H ∧ va_D A0 wc := by
  have right : ∀ (k : Nat) (q : Nat × va_E), wc[k]? = some q → (wr ++ wc)[wr.length + k]? = some q := fun k q hq => by
    rw [List.getElem?_append_right (by omega), Nat.add_sub_cancel_left]
    exact hq
  exact ⟨fun k q h => hP _ q (right k q h), fun i j p q hp hq e => by have := hD.1 _ _ p q (right i p hp) (right j q hq) e; omega, fun k q h => hD.2 _ q (right k q h)⟩
def nAO (U : State) : Prop := (Cond.arrayOver (.array .int)).before #[] U = true
theorem nAO.moved {u U : State} (hvm : u.vm.Alike U.vm) (h : nAO u) : nAO U := by
  obtain ⟨comp, c, k, h1, h2, h3, h4, h5⟩ := arrayOverA_spec h
  obtain ⟨k', hk', he⟩ := hvm.2.2 _ _ h3
  have hi : (U.vm.classes.findIdx? fun (x : Class) => match x.kind with | .array component _ => component == comp | _ => false) = some c := by
    refine (va_idx_bare U.vm comp).symm.trans ?_
    first | rw [hvm.bare_eq] | rw [← hvm.bare_eq]
    exact (va_idx_bare u.vm comp).trans h2
  have hkind : k'.kind = .array comp (.array .int) := by rw [he]; exact h4
  have f1 : U.vm.findClass (FieldType.array .int).toString = some comp := by rw [hvm.findClass]; exact h1
  have f2 : U.vm.findClass ("[" ++ (FieldType.array .int).toString) = some c := by rw [hvm.findClass]; exact h5
  unfold nAO Cond.before Cond.holds
  simp only [Cond.value]
  rw [f1, Option.bind_some]
  refine (congrArg (fun o : Option Nat => (o.bind (fun c => (U.vm.classes[c]?).map fun (k : Class) => match k.kind with | .array _ ty => decide (ty = FieldType.array .int) && decide (U.vm.findClass ("[" ++ (FieldType.array .int).toString) = some c) | _ => false) == some true)) hi).trans ?_
  simp [hk', hkind, f2]
def nTab (U : State) : Prop := zNst U ∧ va_AO "DyeTank$Tank" U ∧ va_AO "DyeTank$Marker" U ∧ nAO U
theorem nTab.same {u U : State} (h : u.vm = U.vm) (q : nTab u) : nTab U := by
  have ha : u.vm.Alike U.vm := h ▸ Vm.Alike.refl u.vm
  exact ⟨va_Nw.same rfl h q.1, q.2.1.moved ha, q.2.2.1.moved ha, q.2.2.2.moved ha⟩
theorem nTab.warm {s U : State} (hW : s.WarmedH U.vm) (q : nTab s) : nTab U := ⟨va_Nw.warmF hW q.1, q.2.1.moved hW.alike, q.2.2.1.moved hW.alike, q.2.2.2.moved hW.alike⟩
abbrev nK : Type := zG × Program × Launch × Env × Room × State × MethodId × Array Value × List Frame × Method × Code × (Nat → Prop) × (State → Prop)
def nrm (d mc ms : Nat) : Room := { frames := d, cells := mc, slots := ms, locals := 40 * d }
def nF (K : nK) (d mc ms : Nat) (own : String) (cc : ByteArray) (nL : Nat) : Prop := match K with
  | (G, p, _, _, R, s, m, args, _, _, c, A, _) => p.tables.exec = Jvm.exec ∧ c.code = cc ∧ c.maxLocals = nL ∧ s.vm.findClass own = some m.cls ∧ (∀ w ∈ zT, w.before args s = true) ∧ va_K G.2.1 vwCl (zty G) s ∧ (∀ q, s.heap.size ≤ q → A q) ∧ zSt G A s s.heap ∧ nTab s ∧ (mc ≤ R.cells ∧ ms ≤ R.slots) ∧ (d ≤ R.frames ∧ 40 * d ≤ R.locals)
def Nn (K : nK) (d mc ms : Nat) (own : String) (cc : ByteArray) (nL : Nat) (pc : Nat) (ls : List (Nat × Value)) (sk : List Value) (ws : va_W) (ce sl : Nat) : Prop := match K with
  | (G, p, l, e, R, s, m, args, below, meth, c, A, Q) => nF (G, p, l, e, R, s, m, args, below, meth, c, A, Q) d mc ms own cc nL → ∀ (H : Heap) (locs : List Loc) (la : Array Slot), va_P G.2.1 vwCl ws H → va_D A ws → va_S A s.heap H locs → lv_has la nL ls → W p l e R s m args below meth c H locs ce sl Q (F0 m pc la sk)
def nNm (K : nK) : Prop := match K with
  | (_, _, _, _, _, _, _, _, _, meth, _, _, _) => meth.name = "<init>"
def nPre (G : zG) (ws0 : va_W) (sz : Nat) (U : State) : Prop := U.heap.size = sz ∧ va_K G.2.1 vwCl (zty G) U ∧ va_P G.2.1 vwCl ws0 U.heap ∧ va_D (fun _ => True) ws0 ∧ zSt G (va_A ws0 sz) U U.heap ∧ nTab U
def nQ (G : zG) (ws0 : va_W) (sz : Nat) (Po : zG → va_W → Prop) : Array Value → State → Outcome → State → Prop := va_Qv (Po G) (fun ws1 t => va_P G.2.1 vwCl ws1 t.heap ∧ va_D (va_A ws0 sz) ws1) (va_A ws0 sz)
def nCt (y : MethodName) (cc : ByteArray) (nL d mc ms : Nat) (ob : va_E) (a : Nat) (Po : zG → va_W → Prop) : Prop :=
  ∀ (l : Launch) (G : zG) (sz : Nat), Met l y (.code y cc nL none :: zT) (nrm d mc ms) (va_Pc [.ref a] (nPre G [(a, ob)] sz)) (nQ G [(a, ob)] sz Po) mc ms (va_A [(a, ob)] sz)
def nRet (K : nK) (mc ms : Nat) (ob : va_E) (a : Nat) (Po : zG → va_W → Prop) : Prop := match K with
  | (G, _, _, _, _, s, _, args, below, meth, _, A, Q) => Q = MQ below (nQ G [(a, ob)] s.heap.size Po) args s mc ms A ∧ A = va_A [(a, ob)] s.heap.size ∧ meth.sig.returnType = none ∧ meth.locks = false
theorem nCt.of {y : MethodName} {cc : ByteArray} {nL d mc ms : Nat} {ob : va_E} {a : Nat} {Po : zG → va_W → Prop} (own : String) (hown : y.cls = own) (hnm : y.name = "<init>") (hy : plainFor y = true) (h1 : 1 ≤ nL) (h : ∀ K : nK, nNm K → nRet K mc ms ob a Po → Nn K d mc ms own cc nL 0 [(0, .ref a)] [] [(a, ob)] 0 0) : nCt y cc nL d mc ms ob a Po := by
  intro l G sz
  refine Met.ofWF (cc := cc) (maxL := nL) (ret := none) hy rfl ?_
  intro p e s m args below meth c s₁ B hml hv
  obtain ⟨rfl, hsz, hK, hP, hD0, hSt, hTb⟩ := hv
  subst hsz
  have hts0 := atoms_spec (ws := .code y cc nL none :: zT) B.pre
  have hts : ∀ w ∈ zT, w.before ([Value.ref a] : List Value).toArray s = true := fun w hw => hts0 w (List.mem_cons_of_mem _ hw)
  have ho : s.vm.findClass own = some m.cls := by rw [← hown]; exact findClass_of_methodNamed B.named
  have hin : meth.name = "<init>" := by rw [← hnm]; exact (name_of_methodNamed B.named B.method).1
  have hz := h (G, p, l, e, nrm d mc ms, s, m, ([Value.ref a] : List Value).toArray, below, meth, c, va_A [(a, ob)] s.heap.size, MQ below (nQ G [(a, ob)] s.heap.size Po) ([Value.ref a] : List Value).toArray s mc ms (va_A [(a, ob)] s.heap.size)) hin ⟨rfl, rfl, B.returns, B.notSynchronized⟩
  rw [lg_entry_eq]
  exact hz ⟨B.exec, B.bytes, hml, ho, hts, hK, fun q hq => Or.inr hq, hSt, hTb, ⟨Nat.le_refl _, Nat.le_refl _⟩, ⟨Nat.le_refl _, Nat.le_refl _⟩⟩ s.heap [] _ hP (hD0.self (sz := s.heap.size)) va_S.rf (lv_entry [Value.ref a] (n := nL) h1)
section NROWS
variable {K : nK} {d mc ms nL pc : Nat} {own : String} {cc : ByteArray} {ls : List (Nat × Value)} {sk : List Value} {ws : va_W} {ce sl : Nat}
theorem n_ws {ws' : va_W} (h : ws = ws') (k : Nn K d mc ms own cc nL pc ls sk ws' ce sl) : Nn K d mc ms own cc nL pc ls sk ws ce sl := h ▸ k
theorem n_aload {k : Fin 4} {i : Nat} {a : Nat} (dg : decode cc pc = .ok (.aload_n k, 1)) (hi : (k : Nat) = i) (j : Nat) (hv : ls[j]? = some (i, Value.ref a)) (k1 : Nn K d mc ms own cc nL (pc + 1) ls (.ref a :: sk) ws ce sl) : Nn K d mc ms own cc nL pc ls sk ws ce sl := by
  obtain ⟨G, p, l, e, R, s, m, args, below, meth, c, A, Q⟩ := K
  intro F H locs la hP hD hS hl
  exact lv_aload_n F.1 F.2.1 dg hi (hl.2.2 _ (List.mem_of_getElem? hv)) (k1 F H locs la hP hD hS hl)
theorem n_iload {k : Fin 4} {i : Nat} {x : Int32} (dg : decode cc pc = .ok (.iload_n k, 1)) (hi : (k : Nat) = i) (j : Nat) (hv : ls[j]? = some (i, Value.int x)) (k1 : Nn K d mc ms own cc nL (pc + 1) ls (.int x :: sk) ws ce sl) : Nn K d mc ms own cc nL pc ls sk ws ce sl := by
  obtain ⟨G, p, l, e, R, s, m, args, below, meth, c, A, Q⟩ := K
  intro F H locs la hP hD hS hl
  exact lv_iload_n F.1 F.2.1 dg hi (hl.2.2 _ (List.mem_of_getElem? hv)) (k1 F H locs la hP hD hS hl)
theorem n_iconst {n : Int} {v : Int32} (dg : decode cc pc = .ok (.iconst n, 1)) (hv : Int32.ofInt n = v) (k : Nn K d mc ms own cc nL (pc + 1) ls (.int v :: sk) ws ce sl) : Nn K d mc ms own cc nL pc ls sk ws ce sl := by
  obtain ⟨G, p, l, e, R, s, m, args, below, meth, c, A, Q⟩ := K
  intro F H locs la hP hD hS hl
  exact lv_iconst F.1 F.2.1 dg hv (k F H locs la hP hD hS hl)
theorem n_bipush {n : Int} {v : Int32} (dg : decode cc pc = .ok (.bipush n, 2)) (hv : (Int8.ofInt n).toInt32 = v) (k : Nn K d mc ms own cc nL (pc + 2) ls (.int v :: sk) ws ce sl) : Nn K d mc ms own cc nL pc ls sk ws ce sl := by
  obtain ⟨G, p, l, e, R, s, m, args, below, meth, c, A, Q⟩ := K
  intro F H locs la hP hD hS hl
  exact lv_bipush F.1 F.2.1 dg hv (k F H locs la hP hD hS hl)
theorem n_sipush {n : Int} {v : Int32} (dg : decode cc pc = .ok (.sipush n, 3)) (hv : (Int16.ofInt n).toInt32 = v) (k : Nn K d mc ms own cc nL (pc + 3) ls (.int v :: sk) ws ce sl) : Nn K d mc ms own cc nL pc ls sk ws ce sl := by
  obtain ⟨G, p, l, e, R, s, m, args, below, meth, c, A, Q⟩ := K
  intro F H locs la hP hD hS hl
  exact lv_sipush F.1 F.2.1 dg hv (k F H locs la hP hD hS hl)
theorem n_dup {a : Nat} (dg : decode cc pc = .ok (.dup, 1)) (k : Nn K d mc ms own cc nL (pc + 1) ls (.ref a :: .ref a :: sk) ws ce sl) : Nn K d mc ms own cc nL pc ls (.ref a :: sk) ws ce sl := by
  obtain ⟨G, p, l, e, R, s, m, args, below, meth, c, A, Q⟩ := K
  intro F H locs la hP hD hS hl
  exact lv_dup F.1 F.2.1 dg rfl (k F H locs la hP hD hS hl)
theorem n_goto {off : Int} {tgt : Nat} (dg : decode cc pc = .ok (.goto off, 3)) (ht : (pc : Int) + off = (tgt : Int)) (k : Nn K d mc ms own cc nL tgt ls sk ws ce sl) : Nn K d mc ms own cc nL pc ls sk ws ce sl := by
  obtain ⟨G, p, l, e, R, s, m, args, below, meth, c, A, Q⟩ := K
  intro F H locs la hP hD hS hl
  exact lv_goto F.1 F.2.1 dg ht (k F H locs la hP hD hS hl)
theorem n_geT {x y : Int32} {off : Int} {tgt : Nat} (dg : decode cc pc = .ok (.if_icmp .ge off, 3)) (ht : (pc : Int) + off = (tgt : Int)) (h : y ≤ x) (k : Nn K d mc ms own cc nL tgt ls sk ws ce sl) : Nn K d mc ms own cc nL pc ls (.int y :: .int x :: sk) ws ce sl := by
  obtain ⟨G, p, l, e, R, s, m, args, below, meth, c, A, Q⟩ := K
  intro F H locs la hP hD hS hl
  exact lv_icmp_ge F.1 F.2.1 dg ht (fun _ => k F H locs la hP hD hS hl) (fun q => absurd h q)
theorem n_geF {x y : Int32} {off : Int} {tgt : Nat} (dg : decode cc pc = .ok (.if_icmp .ge off, 3)) (ht : (pc : Int) + off = (tgt : Int)) (h : ¬ y ≤ x) (k : Nn K d mc ms own cc nL (pc + 3) ls sk ws ce sl) : Nn K d mc ms own cc nL pc ls (.int y :: .int x :: sk) ws ce sl := by
  obtain ⟨G, p, l, e, R, s, m, args, below, meth, c, A, Q⟩ := K
  intro F H locs la hP hD hS hl
  exact lv_icmp_ge F.1 F.2.1 dg ht (fun q => absurd q h) (fun _ => k F H locs la hP hD hS hl)
theorem n_istore1 {x : Int32} {t : Nat} (dg : decode cc pc = .ok (.istore_n 1, 1)) (hn : 1 < nL) (h : ls = [(0, .ref t)] ∨ ∃ y, ls = [(1, .int y), (0, .ref t)]) (k1 : Nn K d mc ms own cc nL (pc + 1) [(1, .int x), (0, .ref t)] sk ws ce sl) : Nn K d mc ms own cc nL pc ls (.int x :: sk) ws ce sl := by
  obtain ⟨G, p, l, e, R, s, m, args, below, meth, c, A, Q⟩ := K
  intro F H locs la hP hD hS hl
  rcases h with rfl | ⟨y, rfl⟩
  · exact lv_istore_n (lv' := [(1, .int x), (0, .ref t)]) F.1 F.2.1 dg rfl hl hn rfl (fun la' hl' => k1 F H locs la' hP hD hS hl')
  · exact lv_istore_n (lv' := [(1, .int x), (0, .ref t)]) F.1 F.2.1 dg rfl hl hn rfl (fun la' hl' => k1 F H locs la' hP hD hS hl')
theorem n_iinc1 {x v : Int32} {t : Nat} (dg : decode cc pc = .ok (.iinc 1 1, 3)) (hn : 1 < nL) (hv : x + Int32.ofInt 1 = v) (k1 : Nn K d mc ms own cc nL (pc + 3) [(1, .int v), (0, .ref t)] sk ws ce sl) : Nn K d mc ms own cc nL pc [(1, .int x), (0, .ref t)] sk ws ce sl := by
  obtain ⟨G, p, l, e, R, s, m, args, below, meth, c, A, Q⟩ := K
  intro F H locs la hP hD hS hl
  exact lv_iinc (v := v) (lv' := [(1, .int v), (0, .ref t)]) F.1 F.2.1 dg hl (k := 0) rfl hv hn rfl (fun la' hl' => k1 F H locs la' hP hD hS hl')
theorem n_obj {idx : Nat} {a : Nat} (hl0 : Cond.methodLink own idx Lib.objectInit ∈ zT) (dg : decode cc pc = .ok (.invokespecial idx, 3)) (hd : 1 ≤ d) (k : Nn K d mc ms own cc nL (pc + 3) ls [] ws ce sl) : Nn K d mc ms own cc nL pc ls [.ref a] ws ce sl := by
  obtain ⟨G, p, l, e, R, s, m, args, below, meth, c, A, Q⟩ := K
  intro F H locs la hP hD hS hl
  have hts := F.2.2.2.2.1
  have hf := F.2.2.2.2.2.2.2.2.2.2
  refine W.objInit F.1 F.2.1 F.2.2.2.1 (hts _ hl0) (hts _ tw_14) (hts _ tw_15) rfl (by rw [F.2.2.1]; exact hl.1) rfl dg (by have := hf.1; omega) (by have := hf.2; show 0 + 0 + 12 ≤ _; omega) ?_
  exact W.eq (g2 := F0 m (pc + 3) la []) rfl (k F H locs la hP hD hS hl)
theorem n_newI {n : Int32} {N : Nat} (dg : decode cc pc = .ok (.newarray .int, 2)) (hn : n = nI N) (hN : N < 5000) (hc : ce + 1 ≤ mc) (hs : sl + N ≤ ms) (k : ∀ q, Nn K d mc ms own cc nL (pc + 2) ls (.ref q :: sk) (ws ++ [(q, zarI K.1 N (fun _ => 0))]) (ce + 1) (sl + N)) : Nn K d mc ms own cc nL pc ls (.int n :: sk) ws ce sl := by
  obtain ⟨G, p, l, e, R, s, m, args, below, meth, c, A, Q⟩ := K
  intro F H locs la hP hD hS hl
  obtain ⟨hx, hb, hml, hown, hts, hK, hA, hSt, hTb, hroom, hfr⟩ := id F
  refine va_newa (D := G.2.1) (cl := vwCl) (atype := .int) (a0 := (N, .inl (fun _ => 0))) hx hb (hts _ tw_57) rfl hK hP hD hS hA (fun cA => rfl) (by rw [hn]; exact nI_pos (by omega)) (by rw [hn]; exact nI_clamp (by omega)) (by show N * 4 ≤ _; omega) (by omega) (by omega) dg (fun q cA H1 hK1 hP1 hD1 hS1 => ?_)
  have e : cA = G.2.2 0 := Option.some.inj ((hK1.2 6 (cA, .int) rfl).2.symm.trans (hK.2 0 _ rfl).2)
  subst e
  exact k q F H1 locs la hP1 hD1 hS1 hl
theorem n_newZ {n : Int32} {N : Nat} (dg : decode cc pc = .ok (.newarray .boolean, 2)) (hn : n = nI N) (hN : N < 5000) (hc : ce + 1 ≤ mc) (hs : sl + N ≤ ms) (k : ∀ q, Nn K d mc ms own cc nL (pc + 2) ls (.ref q :: sk) (ws ++ [(q, .inl (K.1.2.2 1, N, .inl (fun _ => 0)))]) (ce + 1) (sl + N)) : Nn K d mc ms own cc nL pc ls (.int n :: sk) ws ce sl := by
  obtain ⟨G, p, l, e, R, s, m, args, below, meth, c, A, Q⟩ := K
  intro F H locs la hP hD hS hl
  obtain ⟨hx, hb, hml, hown, hts, hK, hA, hSt, hTb, hroom, hfr⟩ := id F
  refine va_newa (D := G.2.1) (cl := vwCl) (atype := .boolean) (a0 := (N, .inl (fun _ => 0))) hx hb (hts _ tw_159) rfl hK hP hD hS hA (fun cA => rfl) (by rw [hn]; exact nI_pos (by omega)) (by rw [hn]; exact nI_clamp (by omega)) (by show N * 1 ≤ _; omega) (by omega) (by omega) dg (fun q cA H1 hK1 hP1 hD1 hS1 => ?_)
  have e : cA = G.2.2 1 := Option.some.inj ((hK1.2 6 (cA, .boolean) rfl).2.symm.trans (hK.2 1 _ rfl).2)
  subst e
  exact k q F H1 locs la hP1 hD1 hS1 hl
theorem n_newC {n : Int32} {N : Nat} (dg : decode cc pc = .ok (.newarray .char, 2)) (hn : n = nI N) (hN : N < 5000) (hc : ce + 1 ≤ mc) (hs : sl + N ≤ ms) (k : ∀ q, Nn K d mc ms own cc nL (pc + 2) ls (.ref q :: sk) (ws ++ [(q, .inl (K.1.2.2 2, N, .inl (fun _ => 0)))]) (ce + 1) (sl + N)) : Nn K d mc ms own cc nL pc ls (.int n :: sk) ws ce sl := by
  obtain ⟨G, p, l, e, R, s, m, args, below, meth, c, A, Q⟩ := K
  intro F H locs la hP hD hS hl
  obtain ⟨hx, hb, hml, hown, hts, hK, hA, hSt, hTb, hroom, hfr⟩ := id F
  refine va_newa (D := G.2.1) (cl := vwCl) (atype := .char) (a0 := (N, .inl (fun _ => 0))) hx hb (hts _ tw_160) rfl hK hP hD hS hA (fun cA => rfl) (by rw [hn]; exact nI_pos (by omega)) (by rw [hn]; exact nI_clamp (by omega)) (by show N * 2 ≤ _; omega) (by omega) (by omega) dg (fun q cA H1 hK1 hP1 hD1 hS1 => ?_)
  have e : cA = G.2.2 2 := Option.some.inj ((hK1.2 6 (cA, .char) rfl).2.symm.trans (hK.2 2 _ rfl).2)
  subst e
  exact k q F H1 locs la hP1 hD1 hS1 hl
theorem n_new {C : String} {T : u_T} {n ci idx : Nat} {fs : List Value} (hin : ∀ w ∈ u_ws C T n, w ∈ zT) (ty : Nat → FieldType) (hty : ∀ k, k < n → parseFieldDescriptor (T k).2.2.1 = some (ty k)) (hc : vwCl[ci]? = some (C, T, n)) (hcl : Cond.classLink own idx C ∈ zT) (hinst : Cond.instantiable C n ∈ zT) (hini : Cond.initialized C ∈ zT) (hfs : ∀ j, j < n → defaultValue (ty j) = vp_V fs j) (h1 : ce + 1 ≤ mc) (h2 : sl + n ≤ ms) (dg : decode cc pc = .ok (.new idx, 3))
    (k : ∀ q, Nn K d mc ms own cc nL (pc + 3) ls (.ref q :: sk) (ws ++ [(q, .inr (ci, fs))]) (ce + 1) (sl + n)) : Nn K d mc ms own cc nL pc ls sk ws ce sl := by
  obtain ⟨G, p, l, e, R, s, m, args, below, meth, c, A, Q⟩ := K
  intro F H locs la hP hD hS hl
  obtain ⟨hx, hb, hml, hown, hts, hK, hA, hSt, hTb, hroom, hfr⟩ := id F
  exact va_new (D := G.2.1) (cl := vwCl) hx hb hts hin ty hty hown (hts _ hcl) (hts _ hinst) (hts _ hini) hK hP hD hS hA hc hfs (by omega) (by omega) dg (fun q H1 hP1 hD1 hS1 => k q F H1 locs la hP1 hD1 hS1 hl)
theorem n_putF {C : String} {T : u_T} {n ci i idx q0 a b : Nat} {fs : List Value} {ty : FieldType} (hin : ∀ w ∈ u_ws C T n, w ∈ zT) (ty0 : Nat → FieldType) (hty : ∀ k, k < n → parseFieldDescriptor (T k).2.2.1 = some (ty0 k)) (hnm : ∀ a, a < n → ∀ b, b < n → a ≠ b → (T a).2.1 ≠ (T b).2.1) (hc : vwCl[ci]? = some (C, T, n)) (hN : nNm K) (he : ws[q0]? = some (a, .inr (ci, fs))) (hi : i < n) (hfin : (T i).2.2.2 = true) (hdecl : (T i).1 = own) (hd : parseFieldDescriptor (T i).2.2.1 = some ty) (hn : narrow ty (.ref b) = .ref b) (hfit : fits ty (.ref b) = true) (hl1 : i < fs.length) (hl0 : Cond.fieldLink own idx (T i).1 (T i).2.1 (T i).2.2.1 ∈ zT) (dg : decode cc pc = .ok (.putfield idx, 3))
    (k : Nn K d mc ms own cc nL (pc + 3) ls sk (ws.set q0 (a, .inr (ci, fs.set i (.ref b)))) ce sl) : Nn K d mc ms own cc nL pc ls (.ref b :: .ref a :: sk) ws ce sl := by
  obtain ⟨G, p, l, e, R, s, m, args, below, meth, c, A, Q⟩ := K
  intro F H locs la hP hD hS hl
  obtain ⟨hx, hb, hml, hown, hts, hK, hA, hSt, hTb, hroom, hfr⟩ := id F
  exact va_putF (D := G.2.1) (cl := vwCl) hx hb hts hin ty0 hty hnm hown hK hP hD hS q0 he hc i hi (hts _ hl0) (fun _ h => h) hfin hN hdecl hd hn hfit hl1 dg (fun H1 locs1 hP1 hD1 hS1 => k F H1 locs1 la hP1 hD1 hS1 hl)
theorem n_getA {C : String} {T : u_T} {n ci i idx q0 a b : Nat} {fs : List Value} (hin : ∀ w ∈ u_ws C T n, w ∈ zT) (hc : vwCl[ci]? = some (C, T, n)) (he : ws[q0]? = some (a, .inr (ci, fs))) (hi : i < n) (hv : fs[i]? = some (.ref b)) (hl0 : Cond.fieldLink own idx (T i).1 (T i).2.1 (T i).2.2.1 ∈ zT) (dg : decode cc pc = .ok (.getfield idx, 3)) (k : Nn K d mc ms own cc nL (pc + 3) ls (.ref b :: sk) ws ce sl) : Nn K d mc ms own cc nL pc ls (.ref a :: sk) ws ce sl := by
  obtain ⟨G, p, l, e, R, s, m, args, below, meth, c, A, Q⟩ := K
  intro F H locs la hP hD hS hl
  obtain ⟨hx, hb, hml, hown, hts, hK, hA, hSt, hTb, hroom, hfr⟩ := id F
  exact va_get (D := G.2.1) (cl := vwCl) hx hb hts hin hown hK hP q0 he hc i hi (hts _ hl0) (fun _ h => h) hv dg (k F H locs la hP hD hS hl)
theorem n_newT {n : Int32} {N idx : Nat} (hcl : Cond.classLink own idx "DyeTank$Tank" ∈ zT) (dg : decode cc pc = .ok (.anewarray idx, 3)) (hn : n = nI N) (hN : N < 5000) (hc : ce + 1 ≤ mc) (hs : sl + N ≤ ms) (k : ∀ q, Nn K d mc ms own cc nL (pc + 3) ls (.ref q :: sk) (ws ++ [(q, .inl (K.1.2.2 3, N, .inr (.inr (.inr (.inr (fun _ => none))))))]) (ce + 1) (sl + N)) : Nn K d mc ms own cc nL pc ls (.int n :: sk) ws ce sl := by
  obtain ⟨G, p, l, e, R, s, m, args, below, meth, c, A, Q⟩ := K
  intro F H locs la hP hD hS hl
  obtain ⟨hx, hb, hml, hown, hts, hK, hA, hSt, hTb, hroom, hfr⟩ := id F
  refine va_newq (D := G.2.1) (cl := vwCl) (N' := N) hx hb hown (hts _ hcl) hTb.2.1 hK hP hD hS hA (by rw [hn]; exact nI_pos (by omega)) (by rw [hn]; exact nI_clamp (by omega)) (by omega) (by omega) (by omega) dg (fun q cA H1 hK1 hP1 hD1 hS1 => ?_)
  obtain ⟨_, _, _, _, _, f1⟩ := (hK1.2 6 (cA, .object "DyeTank$Tank") rfl).2
  obtain ⟨_, _, _, _, _, f2⟩ := (hK.2 3 _ rfl).2
  have e : cA = G.2.2 3 := Option.some.inj (f1.symm.trans f2)
  subst e
  exact k q F H1 locs la hP1 hD1 hS1 hl
theorem n_newM {n : Int32} {N idx : Nat} (hcl : Cond.classLink own idx "DyeTank$Marker" ∈ zT) (dg : decode cc pc = .ok (.anewarray idx, 3)) (hn : n = nI N) (hN : N < 5000) (hc : ce + 1 ≤ mc) (hs : sl + N ≤ ms) (k : ∀ q, Nn K d mc ms own cc nL (pc + 3) ls (.ref q :: sk) (ws ++ [(q, .inl (K.1.2.2 4, N, .inr (.inr (.inr (.inr (fun _ => none))))))]) (ce + 1) (sl + N)) : Nn K d mc ms own cc nL pc ls (.int n :: sk) ws ce sl := by
  obtain ⟨G, p, l, e, R, s, m, args, below, meth, c, A, Q⟩ := K
  intro F H locs la hP hD hS hl
  obtain ⟨hx, hb, hml, hown, hts, hK, hA, hSt, hTb, hroom, hfr⟩ := id F
  refine va_newq (D := G.2.1) (cl := vwCl) (N' := N) hx hb hown (hts _ hcl) hTb.2.2.1 hK hP hD hS hA (by rw [hn]; exact nI_pos (by omega)) (by rw [hn]; exact nI_clamp (by omega)) (by omega) (by omega) (by omega) dg (fun q cA H1 hK1 hP1 hD1 hS1 => ?_)
  obtain ⟨_, _, _, _, _, f1⟩ := (hK1.2 6 (cA, .object "DyeTank$Marker") rfl).2
  obtain ⟨_, _, _, _, _, f2⟩ := (hK.2 4 _ rfl).2
  have e : cA = G.2.2 4 := Option.some.inj (f1.symm.trans f2)
  subst e
  exact k q F H1 locs la hP1 hD1 hS1 hl
theorem n_ast {q0 qk t0 ci a v n : Nat} {r : vw_C} {vs : List Value} {f : Nat → Option Nat} {i : Int32} {j : Nat} (he : ws[q0]? = some (a, .inl (K.1.2.2 t0, n, .inr (.inr (.inr (.inr f)))))) (ht : (zty K.1)[t0]? = some (K.1.2.2 t0, .object r.1)) (hv : ws[qk]? = some (v, .inr (ci, vs))) (hc : vwCl[ci]? = some r) (hi : i = nI j) (hj : j < n) (hn : n < 5000) (dg : decode cc pc = .ok (.aastore, 1))
    (k : Nn K d mc ms own cc nL (pc + 1) ls sk (ws.set q0 (a, .inl (K.1.2.2 t0, n, .inr (.inr (.inr (.inr (va_up f j (some v)))))))) ce sl) : Nn K d mc ms own cc nL pc ls (.ref v :: .int i :: .ref a :: sk) ws ce sl := by
  obtain ⟨G, p, l, e, R, s, m, args, below, meth, c, A, Q⟩ := K
  intro F H locs la hP hD hS hl
  obtain ⟨hx, hb, hml, hown, hts, hK, hA, hSt, hTb, hroom, hfr⟩ := id F
  subst hi
  refine va_astq (D := G.2.1) (cl := vwCl) hx hb hK hP hD hS q0 t0 qk ci he ht hv hc (vp_in_nI hj (by omega)) dg (fun H1 locs1 hP1 hD1 hS1 => ?_)
  rw [nI_clamp (by omega)] at hP1 hD1
  exact k F H1 locs1 la hP1 hD1 hS1 hl
theorem n_refs {q0 a n : Nat} {cA : ClassId} {f f' : Nat → Option Nat} (he : ws[q0]? = some (a, .inl (cA, n, .inr (.inr (.inr (.inr f)))))) (hf : ∀ j, j < n → f j = f' j) (k : Nn K d mc ms own cc nL pc ls sk (ws.set q0 (a, .inl (cA, n, .inr (.inr (.inr (.inr f')))))) ce sl) : Nn K d mc ms own cc nL pc ls sk ws ce sl := by
  obtain ⟨G, p, l, e, R, s, m, args, below, meth, c, A, Q⟩ := K
  intro F H locs la hP hD hS hl
  refine k F H locs la (hP.set hD he ?_ (fun _ _ => rfl)) (hD.set he) hS hl
  have h0 := hP q0 _ he
  show H[a]? = some (vp_cell cA (n, .inr (.inr (.inr (.inr f')))))
  have h1 : H[a]? = some (vp_cell cA (n, .inr (.inr (.inr (.inr f))))) := h0
  rw [h1, vp_cell_q, vp_cell_q]
  congr 1
  unfold arrV
  congr 1
  apply Array.ext
  · simp
  · intro i h1 h2
    simp at h1
    simp [hf i h1]
theorem n_sub {ws' : va_W} (is : List Nat) (hn : va_nd is = true) (hs : is.map (fun i => ws[i]?) = ws'.map some) (hs2 : is.filterMap (fun i => ws[i]?) = ws') (k : Nn K d mc ms own cc nL pc ls sk ws' ce sl) : Nn K d mc ms own cc nL pc ls sk ws ce sl := by
  obtain ⟨G, p, l, e, R, s, m, args, below, meth, c, A, Q⟩ := K
  intro F H locs la hP hD hS hl
  exact k F H locs la (hP.sub is hs2) (hD.sub is hn hs) hS hl
theorem n_vret {ob : va_E} {a : Nat} {Po : zG → va_W → Prop} (hR : nRet K mc ms ob a Po) (dg : decode cc pc = .ok (.return_, 1)) (h1 : ce = mc) (h2 : sl = ms) (h : Po K.1 ws) : Nn K d mc ms own cc nL pc ls [] ws ce sl := by
  obtain ⟨G, p, l, e, R, s, m, args, below, meth, c, A, Q⟩ := K
  intro F H locs la hP hD hS hl
  obtain ⟨rfl, rfl, hr, hlk⟩ := hR
  subst h1 h2
  exact W.vret F.1 F.2.1 hr (fun t ht hW => ⟨⟨ws, rfl, h, by rw [ht]; exact hP, hD⟩, hS.F ht⟩) hS.2.2 dg hlk
end NROWS
