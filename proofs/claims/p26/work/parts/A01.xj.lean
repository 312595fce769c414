/-! the law's own methods: the store beside the law's arrays (address, length, contents); cells are made -/
abbrev xE : Type := List (Nat × Nat × (Nat → Int32))
def xw (G : zG) (E : xE) : va_W := E.map (fun q => (q.1, zarI G q.2.1 q.2.2))
def xW (G : zG) (μ : zM) (E : xE) : va_W := zws G μ ++ xw G E
/-- an array's id is its address -/
def xG (G : zG) : Prop := ∀ a : Nat, G.1 (99, a, 0) = a
def xR (a : Nat) : zV := zR (99, a, 0)
abbrev xK : Type := zG × Program × Launch × Env × Room × State × MethodId × Array Value × List Frame × Method × Code × (Nat → Prop) × (State → Prop)
def xF (K : xK) (d mc ms : Nat) (own : String) (cc : ByteArray) (nL : Nat) : Prop := match K with
  | (G, p, _, _, R, s, m, args, _, _, c, A, _) => p.tables.exec = Jvm.exec ∧ c.code = cc ∧ c.maxLocals = nL ∧ s.vm.findClass own = some m.cls ∧ (∀ w ∈ zT, w.before args s = true) ∧ va_K G.2.1 vwCl (zty G) s ∧ (∀ q, s.heap.size ≤ q → A q) ∧ zSt G A s s.heap ∧ nTab s ∧ (mc ≤ R.cells ∧ ms ≤ R.slots) ∧ (d ≤ R.frames ∧ 40 * d ≤ R.locals) ∧ xG G
def Xj (K : xK) (d mc ms : Nat) (own : String) (cc : ByteArray) (nL : Nat) (pc : Nat) (ls sk : List zV) (μ : zM) (E : xE) (ce sl : Nat) : Prop := match K with
  | (G, p, l, e, R, s, m, args, below, meth, c, A, Q) => xF (G, p, l, e, R, s, m, args, below, meth, c, A, Q) d mc ms own cc nL → ∀ (H : Heap) (locs : List Loc) (la : Array Slot), va_P G.2.1 vwCl (xW G μ E) H → va_D A (xW G μ E) → va_S A s.heap H locs → lv_has la nL (zl G 0 ls) → W p l e R s m args below meth c H locs ce sl Q (F0 m pc la (sk.map (zc G.1)))
/-! contracts of the law's methods -/
def xPre (G : zG) (μ : zM) (E : xE) (sz : Nat) (U : State) : Prop := U.heap.size = sz ∧ va_K G.2.1 vwCl (zty G) U ∧ va_P G.2.1 vwCl (xW G μ E) U.heap ∧ va_D (fun _ => True) (xW G μ E) ∧ zSt G (va_A (xW G μ E) sz) U U.heap ∧ nTab U
def xQ (G : zG) (μ : zM) (E : xE) (sz : Nat) (Po : zM → xE → zV → Prop) : Array Value → State → Outcome → State → Prop := fun _ u oc t => ∃ (μ' : zM) (E' : xE) (r : zV), oc = .returned (zret G r) ∧ Po μ' E' r ∧ va_P G.2.1 vwCl (xW G μ' E') t.heap ∧ va_D (va_A (xW G μ E) sz) (xW G μ' E') ∧ va_F (va_A (xW G μ E) sz) u t
def xCt (y : MethodName) (cc : ByteArray) (nL : Nat) (ret : Option FieldType) (d mc ms : Nat) (av : List zV) (μ : zM) (E : xE) (Po : zM → xE → zV → Prop) : Prop :=
  ∀ (l : Launch) (G : zG) (sz : Nat), xG G → Met l y (.code y cc nL ret :: zT) (nrm d mc ms) (va_Pc (av.map (zc G.1)) (xPre G μ E sz)) (xQ G μ E sz Po) mc ms (va_A (xW G μ E) sz)
def xRet (K : xK) (mc ms : Nat) (μ : zM) (E : xE) (Po : zM → xE → zV → Prop) (ret : Option FieldType) : Prop := match K with
  | (G, _, _, _, _, s, _, args, below, meth, _, A, Q) => Q = MQ below (xQ G μ E s.heap.size Po) args s mc ms A ∧ A = va_A (xW G μ E) s.heap.size ∧ meth.sig.returnType = ret ∧ meth.locks = false
theorem xCt.of {y : MethodName} {cc : ByteArray} {nL d mc ms : Nat} {ret : Option FieldType} {av : List zV} {μ : zM} {E : xE} {Po : zM → xE → zV → Prop} (own : String) (hown : y.cls = own) (hy : plainFor y = true) (h1 : zone av = true) (h2 : av.length ≤ nL) (h : ∀ K : xK, xRet K mc ms μ E Po ret → Xj K d mc ms own cc nL 0 (av ++ List.replicate (nL - av.length) zN) [] μ E 0 0) : xCt y cc nL ret d mc ms av μ E Po := by
  intro l G sz hG
  refine Met.ofWF (cc := cc) (maxL := nL) (ret := ret) hy rfl ?_
  intro p e s m args below meth c s₁ B hml hv
  obtain ⟨rfl, hsz, hK, hP, hD0, hSt, hTb⟩ := hv
  subst hsz
  have hts0 := atoms_spec (ws := .code y cc nL ret :: zT) B.pre
  have hts : ∀ w ∈ zT, w.before (av.map (zc G.1)).toArray s = true := fun w hw => hts0 w (List.mem_cons_of_mem _ hw)
  have ho : s.vm.findClass own = some m.cls := by rw [← hown]; exact findClass_of_methodNamed B.named
  have hz := h (G, p, l, e, nrm d mc ms, s, m, (av.map (zc G.1)).toArray, below, meth, c, va_A (xW G μ E) s.heap.size, MQ below (xQ G μ E s.heap.size Po) (av.map (zc G.1)).toArray s mc ms (va_A (xW G μ E) s.heap.size)) ⟨rfl, rfl, B.returns, B.notSynchronized⟩
  rw [lg_entry_eq]
  exact hz ⟨B.exec, B.bytes, hml, ho, hts, hK, fun q hq => Or.inr hq, hSt, hTb, ⟨Nat.le_refl _, Nat.le_refl _⟩, ⟨Nat.le_refl _, Nat.le_refl _⟩, hG⟩ s.heap [] _ hP (hD0.self (sz := s.heap.size)) va_S.rf (lv_less (lv_entry (av.map (zc G.1)) (n := nL) (by rw [lg_sl_one G.1 av h1]; exact h2)) (zl_entry av _ 0 h1))
section XROWS
variable {K : xK} {d mc ms nL pc : Nat} {own : String} {cc : ByteArray} {ls sk : List zV} {μ : zM} {E : xE} {ce sl : Nat}
theorem j_iconst {n : Int} {v : Int32} (dg : decode cc pc = .ok (.iconst n, 1)) (hv : Int32.ofInt n = v) (k : Xj K d mc ms own cc nL (pc + 1) ls (zI v :: sk) μ E ce sl) : Xj K d mc ms own cc nL pc ls sk μ E ce sl := by
  obtain ⟨G, p, l, e, R, s, m, args, below, meth, c, A, Q⟩ := K
  intro F H locs la hP hD hS hl
  exact lv_iconst F.1 F.2.1 dg hv (k F H locs la hP hD hS hl)
theorem j_bipush {n : Int} {v : Int32} (dg : decode cc pc = .ok (.bipush n, 2)) (hv : (Int8.ofInt n).toInt32 = v) (k : Xj K d mc ms own cc nL (pc + 2) ls (zI v :: sk) μ E ce sl) : Xj K d mc ms own cc nL pc ls sk μ E ce sl := by
  obtain ⟨G, p, l, e, R, s, m, args, below, meth, c, A, Q⟩ := K
  intro F H locs la hP hD hS hl
  exact lv_bipush F.1 F.2.1 dg hv (k F H locs la hP hD hS hl)
theorem j_sipush {n : Int} {v : Int32} (dg : decode cc pc = .ok (.sipush n, 3)) (hv : (Int16.ofInt n).toInt32 = v) (k : Xj K d mc ms own cc nL (pc + 3) ls (zI v :: sk) μ E ce sl) : Xj K d mc ms own cc nL pc ls sk μ E ce sl := by
  obtain ⟨G, p, l, e, R, s, m, args, below, meth, c, A, Q⟩ := K
  intro F H locs la hP hD hS hl
  exact lv_sipush F.1 F.2.1 dg hv (k F H locs la hP hD hS hl)
theorem j_lconst {n : Fin 2} {v : Int64} (dg : decode cc pc = .ok (.lconst n, 1)) (hv : Int64.ofNat (n : Nat) = v) (k : Xj K d mc ms own cc nL (pc + 1) ls (zL v :: sk) μ E ce sl) : Xj K d mc ms own cc nL pc ls sk μ E ce sl := by
  obtain ⟨G, p, l, e, R, s, m, args, below, meth, c, A, Q⟩ := K
  intro F H locs la hP hD hS hl
  exact lv_lconst F.1 F.2.1 dg hv (k F H locs la hP hD hS hl)
theorem j_ldc {index : Nat} {v : Int32} (dg : decode cc pc = .ok (.ldc index, 2)) (hc : Cond.constant own index v ∈ zT) (k : Xj K d mc ms own cc nL (pc + 2) ls (zI v :: sk) μ E ce sl) : Xj K d mc ms own cc nL pc ls sk μ E ce sl := by
  obtain ⟨G, p, l, e, R, s, m, args, below, meth, c, A, Q⟩ := K
  intro F H locs la hP hD hS hl
  exact lv_ldc F.1 F.2.1 F.2.2.2.1 (F.2.2.2.2.1 _ hc) dg (k F H locs la hP hD hS hl)
theorem j_ldc2 {index : Nat} {v : Int64} (dg : decode cc pc = .ok (.ldc2_w index, 3)) (hc : Cond.constantLong own index v ∈ zT) (k : Xj K d mc ms own cc nL (pc + 3) ls (zL v :: sk) μ E ce sl) : Xj K d mc ms own cc nL pc ls sk μ E ce sl := by
  obtain ⟨G, p, l, e, R, s, m, args, below, meth, c, A, Q⟩ := K
  intro F H locs la hP hD hS hl
  exact lv_ldc2 F.1 F.2.1 F.2.2.2.1 (F.2.2.2.2.1 _ hc) dg (k F H locs la hP hD hS hl)
theorem j_iload_n {k : Fin 4} {i : Nat} {x : Int32} (dg : decode cc pc = .ok (.iload_n k, 1)) (hi : (k : Nat) = i) (hv : ls[i]? = some (zI x)) (k1 : Xj K d mc ms own cc nL (pc + 1) ls (zI x :: sk) μ E ce sl) : Xj K d mc ms own cc nL pc ls sk μ E ce sl := by
  obtain ⟨G, p, l, e, R, s, m, args, below, meth, c, A, Q⟩ := K
  intro F H locs la hP hD hS hl
  exact lv_iload_n F.1 F.2.1 dg hi (zl_at hl hv) (k1 F H locs la hP hD hS hl)
theorem j_iload {i : Nat} {x : Int32} (dg : decode cc pc = .ok (.iload i, 2)) (hv : ls[i]? = some (zI x)) (k : Xj K d mc ms own cc nL (pc + 2) ls (zI x :: sk) μ E ce sl) : Xj K d mc ms own cc nL pc ls sk μ E ce sl := by
  obtain ⟨G, p, l, e, R, s, m, args, below, meth, c, A, Q⟩ := K
  intro F H locs la hP hD hS hl
  exact lv_iload F.1 F.2.1 dg (zl_at hl hv) (k F H locs la hP hD hS hl)
theorem j_lload_n {k : Fin 4} {i : Nat} {x : Int64} (dg : decode cc pc = .ok (.lload_n k, 1)) (hi : (k : Nat) = i) (hv : ls[i]? = some (zL x)) (k1 : Xj K d mc ms own cc nL (pc + 1) ls (zL x :: sk) μ E ce sl) : Xj K d mc ms own cc nL pc ls sk μ E ce sl := by
  obtain ⟨G, p, l, e, R, s, m, args, below, meth, c, A, Q⟩ := K
  intro F H locs la hP hD hS hl
  exact lv_lload_n F.1 F.2.1 dg hi (zl_at hl hv) (k1 F H locs la hP hD hS hl)
theorem j_lload {i : Nat} {x : Int64} (dg : decode cc pc = .ok (.lload i, 2)) (hv : ls[i]? = some (zL x)) (k : Xj K d mc ms own cc nL (pc + 2) ls (zL x :: sk) μ E ce sl) : Xj K d mc ms own cc nL pc ls sk μ E ce sl := by
  obtain ⟨G, p, l, e, R, s, m, args, below, meth, c, A, Q⟩ := K
  intro F H locs la hP hD hS hl
  exact lv_lload F.1 F.2.1 dg (zl_at hl hv) (k F H locs la hP hD hS hl)
theorem j_aload_n {k : Fin 4} {i : Nat} {x : zA} (dg : decode cc pc = .ok (.aload_n k, 1)) (hi : (k : Nat) = i) (hv : ls[i]? = some (zR x)) (k1 : Xj K d mc ms own cc nL (pc + 1) ls (zR x :: sk) μ E ce sl) : Xj K d mc ms own cc nL pc ls sk μ E ce sl := by
  obtain ⟨G, p, l, e, R, s, m, args, below, meth, c, A, Q⟩ := K
  intro F H locs la hP hD hS hl
  exact lv_aload_n F.1 F.2.1 dg hi (zl_at hl hv) (k1 F H locs la hP hD hS hl)
theorem j_aload {i : Nat} {x : zA} (dg : decode cc pc = .ok (.aload i, 2)) (hv : ls[i]? = some (zR x)) (k : Xj K d mc ms own cc nL (pc + 2) ls (zR x :: sk) μ E ce sl) : Xj K d mc ms own cc nL pc ls sk μ E ce sl := by
  obtain ⟨G, p, l, e, R, s, m, args, below, meth, c, A, Q⟩ := K
  intro F H locs la hP hD hS hl
  exact lv_aload F.1 F.2.1 dg (zl_at hl hv) (k F H locs la hP hD hS hl)
theorem j_istore_n {k : Fin 4} {i : Nat} {x : Int32} (dg : decode cc pc = .ok (.istore_n k, 1)) (hi : (k : Nat) = i) (hn : i < nL) (hz : zokb ls i = true) (k1 : Xj K d mc ms own cc nL (pc + 1) (ls.set i (zI x)) sk μ E ce sl) : Xj K d mc ms own cc nL pc ls (zI x :: sk) μ E ce sl := by
  obtain ⟨G, p, l, e, R, s, m, args, below, meth, c, A, Q⟩ := K
  intro F H locs la hP hD hS hl
  rw [← zset_eq hz] at k1
  exact lv_istore_n F.1 F.2.1 dg hi hl hn rfl fun la' hl' => k1 F H locs la' hP hD hS (zl_set1 (v := zI x) hl')
theorem j_istore {i : Nat} {x : Int32} (dg : decode cc pc = .ok (.istore i, 2)) (hn : i < nL) (hz : zokb ls i = true) (k1 : Xj K d mc ms own cc nL (pc + 2) (ls.set i (zI x)) sk μ E ce sl) : Xj K d mc ms own cc nL pc ls (zI x :: sk) μ E ce sl := by
  obtain ⟨G, p, l, e, R, s, m, args, below, meth, c, A, Q⟩ := K
  intro F H locs la hP hD hS hl
  rw [← zset_eq hz] at k1
  exact lv_istore F.1 F.2.1 dg hl hn rfl fun la' hl' => k1 F H locs la' hP hD hS (zl_set1 (v := zI x) hl')
theorem j_lstore_n {k : Fin 4} {i : Nat} {x : Int64} (dg : decode cc pc = .ok (.lstore_n k, 1)) (hi : (k : Nat) = i) (hn : i + 1 < nL) (hz : zokb ls i = true) (k1 : Xj K d mc ms own cc nL (pc + 1) ((ls.set i (zL x)).set (i + 1) zN) sk μ E ce sl) : Xj K d mc ms own cc nL pc ls (zL x :: sk) μ E ce sl := by
  obtain ⟨G, p, l, e, R, s, m, args, below, meth, c, A, Q⟩ := K
  intro F H locs la hP hD hS hl
  rw [← zset_eq hz] at k1
  exact lv_lstore_n F.1 F.2.1 dg hi hl hn rfl fun la' hl' => k1 F H locs la' hP hD hS (zl_set2 (v := zL x) hl')
theorem j_lstore {i : Nat} {x : Int64} (dg : decode cc pc = .ok (.lstore i, 2)) (hn : i + 1 < nL) (hz : zokb ls i = true) (k1 : Xj K d mc ms own cc nL (pc + 2) ((ls.set i (zL x)).set (i + 1) zN) sk μ E ce sl) : Xj K d mc ms own cc nL pc ls (zL x :: sk) μ E ce sl := by
  obtain ⟨G, p, l, e, R, s, m, args, below, meth, c, A, Q⟩ := K
  intro F H locs la hP hD hS hl
  rw [← zset_eq hz] at k1
  exact lv_lstore F.1 F.2.1 dg hl hn rfl fun la' hl' => k1 F H locs la' hP hD hS (zl_set2 (v := zL x) hl')
theorem j_astore_n {k : Fin 4} {i : Nat} {x : zA} (dg : decode cc pc = .ok (.astore_n k, 1)) (hi : (k : Nat) = i) (hn : i < nL) (hz : zokb ls i = true) (k1 : Xj K d mc ms own cc nL (pc + 1) (ls.set i (zR x)) sk μ E ce sl) : Xj K d mc ms own cc nL pc ls (zR x :: sk) μ E ce sl := by
  obtain ⟨G, p, l, e, R, s, m, args, below, meth, c, A, Q⟩ := K
  intro F H locs la hP hD hS hl
  rw [← zset_eq hz] at k1
  exact lv_astore_n F.1 F.2.1 dg hi hl hn rfl fun la' hl' => k1 F H locs la' hP hD hS (zl_set1 (v := zR x) hl')
theorem j_astore {i : Nat} {x : zA} (dg : decode cc pc = .ok (.astore i, 2)) (hn : i < nL) (hz : zokb ls i = true) (k1 : Xj K d mc ms own cc nL (pc + 2) (ls.set i (zR x)) sk μ E ce sl) : Xj K d mc ms own cc nL pc ls (zR x :: sk) μ E ce sl := by
  obtain ⟨G, p, l, e, R, s, m, args, below, meth, c, A, Q⟩ := K
  intro F H locs la hP hD hS hl
  rw [← zset_eq hz] at k1
  exact lv_astore F.1 F.2.1 dg hl hn rfl fun la' hl' => k1 F H locs la' hP hD hS (zl_set1 (v := zR x) hl')
theorem j_iinc {i : Nat} {n : Int} {x v : Int32} (dg : decode cc pc = .ok (.iinc i n, 3)) (hx : ls[i]? = some (zI x)) (hv : x + Int32.ofInt n = v) (hn : i < nL) (hz : zokb ls i = true) (k : Xj K d mc ms own cc nL (pc + 3) (ls.set i (zI v)) sk μ E ce sl) : Xj K d mc ms own cc nL pc ls sk μ E ce sl := by
  obtain ⟨G, p, l, e, R, s, m, args, below, meth, c, A, Q⟩ := K
  intro F H locs la hP hD hS hl
  rw [← zset_eq hz] at k
  obtain ⟨k1, hk1⟩ := List.getElem?_of_mem ((zl_mem (G := G) ls 0).mpr ⟨i, _, hx, rfl⟩)
  rw [Nat.zero_add] at hk1
  exact lv_iinc F.1 F.2.1 dg hl hk1 hv hn rfl fun la' hl' => k F H locs la' hP hD hS (zl_set1 (v := zI v) hl')
theorem j_iadd {x y : Int32} (dg : decode cc pc = .ok (.iadd, 1)) (k : Xj K d mc ms own cc nL (pc + 1) ls (zI (x + y) :: sk) μ E ce sl) : Xj K d mc ms own cc nL pc ls (zI y :: zI x :: sk) μ E ce sl := by
  obtain ⟨G, p, l, e, R, s, m, args, below, meth, c, A, Q⟩ := K
  intro F H locs la hP hD hS hl
  exact lv_iadd F.1 F.2.1 dg (k F H locs la hP hD hS hl)
theorem j_isub {x y : Int32} (dg : decode cc pc = .ok (.isub, 1)) (k : Xj K d mc ms own cc nL (pc + 1) ls (zI (x - y) :: sk) μ E ce sl) : Xj K d mc ms own cc nL pc ls (zI y :: zI x :: sk) μ E ce sl := by
  obtain ⟨G, p, l, e, R, s, m, args, below, meth, c, A, Q⟩ := K
  intro F H locs la hP hD hS hl
  exact lv_isub F.1 F.2.1 dg (k F H locs la hP hD hS hl)
theorem j_imul {x y : Int32} (dg : decode cc pc = .ok (.imul, 1)) (k : Xj K d mc ms own cc nL (pc + 1) ls (zI (x * y) :: sk) μ E ce sl) : Xj K d mc ms own cc nL pc ls (zI y :: zI x :: sk) μ E ce sl := by
  obtain ⟨G, p, l, e, R, s, m, args, below, meth, c, A, Q⟩ := K
  intro F H locs la hP hD hS hl
  exact lv_imul F.1 F.2.1 dg (k F H locs la hP hD hS hl)
theorem j_iand {x y : Int32} (dg : decode cc pc = .ok (.iand, 1)) (k : Xj K d mc ms own cc nL (pc + 1) ls (zI (x &&& y) :: sk) μ E ce sl) : Xj K d mc ms own cc nL pc ls (zI y :: zI x :: sk) μ E ce sl := by
  obtain ⟨G, p, l, e, R, s, m, args, below, meth, c, A, Q⟩ := K
  intro F H locs la hP hD hS hl
  exact lv_iand F.1 F.2.1 dg (k F H locs la hP hD hS hl)
theorem j_ishr {x y : Int32} (dg : decode cc pc = .ok (.ishr, 1)) (k : Xj K d mc ms own cc nL (pc + 1) ls (zI (x >>> (y &&& 31)) :: sk) μ E ce sl) : Xj K d mc ms own cc nL pc ls (zI y :: zI x :: sk) μ E ce sl := by
  obtain ⟨G, p, l, e, R, s, m, args, below, meth, c, A, Q⟩ := K
  intro F H locs la hP hD hS hl
  exact lv_ishr F.1 F.2.1 dg (k F H locs la hP hD hS hl)
theorem j_idiv {x y : Int32} (dg : decode cc pc = .ok (.idiv, 1)) (hy : ¬ y = 0) (k : Xj K d mc ms own cc nL (pc + 1) ls (zI (x / y) :: sk) μ E ce sl) : Xj K d mc ms own cc nL pc ls (zI y :: zI x :: sk) μ E ce sl := by
  obtain ⟨G, p, l, e, R, s, m, args, below, meth, c, A, Q⟩ := K
  intro F H locs la hP hD hS hl
  exact lv_idiv F.1 F.2.1 dg hy (k F H locs la hP hD hS hl)
theorem j_irem {x y : Int32} (dg : decode cc pc = .ok (.irem, 1)) (hy : ¬ y = 0) (k : Xj K d mc ms own cc nL (pc + 1) ls (zI (x - x / y * y) :: sk) μ E ce sl) : Xj K d mc ms own cc nL pc ls (zI y :: zI x :: sk) μ E ce sl := by
  obtain ⟨G, p, l, e, R, s, m, args, below, meth, c, A, Q⟩ := K
  intro F H locs la hP hD hS hl
  exact lv_irem F.1 F.2.1 dg hy (k F H locs la hP hD hS hl)
theorem j_ineg {x : Int32} (dg : decode cc pc = .ok (.ineg, 1)) (k : Xj K d mc ms own cc nL (pc + 1) ls (zI (-x) :: sk) μ E ce sl) : Xj K d mc ms own cc nL pc ls (zI x :: sk) μ E ce sl := by
  obtain ⟨G, p, l, e, R, s, m, args, below, meth, c, A, Q⟩ := K
  intro F H locs la hP hD hS hl
  exact lv_ineg F.1 F.2.1 dg (k F H locs la hP hD hS hl)
theorem j_ladd {x y : Int64} (dg : decode cc pc = .ok (.ladd, 1)) (k : Xj K d mc ms own cc nL (pc + 1) ls (zL (x + y) :: sk) μ E ce sl) : Xj K d mc ms own cc nL pc ls (zL y :: zL x :: sk) μ E ce sl := by
  obtain ⟨G, p, l, e, R, s, m, args, below, meth, c, A, Q⟩ := K
  intro F H locs la hP hD hS hl
  exact lv_ladd F.1 F.2.1 dg (k F H locs la hP hD hS hl)
theorem j_lsub {x y : Int64} (dg : decode cc pc = .ok (.lsub, 1)) (k : Xj K d mc ms own cc nL (pc + 1) ls (zL (x - y) :: sk) μ E ce sl) : Xj K d mc ms own cc nL pc ls (zL y :: zL x :: sk) μ E ce sl := by
  obtain ⟨G, p, l, e, R, s, m, args, below, meth, c, A, Q⟩ := K
  intro F H locs la hP hD hS hl
  exact lv_lsub F.1 F.2.1 dg (k F H locs la hP hD hS hl)
theorem j_lmul {x y : Int64} (dg : decode cc pc = .ok (.lmul, 1)) (k : Xj K d mc ms own cc nL (pc + 1) ls (zL (x * y) :: sk) μ E ce sl) : Xj K d mc ms own cc nL pc ls (zL y :: zL x :: sk) μ E ce sl := by
  obtain ⟨G, p, l, e, R, s, m, args, below, meth, c, A, Q⟩ := K
  intro F H locs la hP hD hS hl
  exact lv_lmul F.1 F.2.1 dg (k F H locs la hP hD hS hl)
theorem j_ldiv {x y : Int64} (dg : decode cc pc = .ok (.ldiv, 1)) (hy : ¬ y = 0) (k : Xj K d mc ms own cc nL (pc + 1) ls (zL (x / y) :: sk) μ E ce sl) : Xj K d mc ms own cc nL pc ls (zL y :: zL x :: sk) μ E ce sl := by
  obtain ⟨G, p, l, e, R, s, m, args, below, meth, c, A, Q⟩ := K
  intro F H locs la hP hD hS hl
  exact lv_ldiv F.1 F.2.1 dg hy (k F H locs la hP hD hS hl)
theorem j_i2l {x : Int32} (dg : decode cc pc = .ok (.i2l, 1)) (k : Xj K d mc ms own cc nL (pc + 1) ls (zL x.toInt64 :: sk) μ E ce sl) : Xj K d mc ms own cc nL pc ls (zI x :: sk) μ E ce sl := by
  obtain ⟨G, p, l, e, R, s, m, args, below, meth, c, A, Q⟩ := K
  intro F H locs la hP hD hS hl
  exact lv_i2l F.1 F.2.1 dg rfl (k F H locs la hP hD hS hl)
theorem j_lcmp {x y : Int64} (dg : decode cc pc = .ok (.lcmp, 1)) (k : Xj K d mc ms own cc nL (pc + 1) ls (zI (lg_cmp x y) :: sk) μ E ce sl) : Xj K d mc ms own cc nL pc ls (zL y :: zL x :: sk) μ E ce sl := by
  obtain ⟨G, p, l, e, R, s, m, args, below, meth, c, A, Q⟩ := K
  intro F H locs la hP hD hS hl
  exact W.lcmp F.1 F.2.1 dg (k F H locs la hP hD hS hl)
theorem j_dup {v : zV} (dg : decode cc pc = .ok (.dup, 1)) (hv : zcat v = 1) (k : Xj K d mc ms own cc nL (pc + 1) ls (v :: v :: sk) μ E ce sl) : Xj K d mc ms own cc nL pc ls (v :: sk) μ E ce sl := by
  obtain ⟨G, p, l, e, R, s, m, args, below, meth, c, A, Q⟩ := K
  intro F H locs la hP hD hS hl
  exact lv_dup F.1 F.2.1 dg (by rw [zcat_eq]; exact hv) (k F H locs la hP hD hS hl)
theorem j_pop {v : zV} (dg : decode cc pc = .ok (.pop, 1)) (hv : zcat v = 1) (k : Xj K d mc ms own cc nL (pc + 1) ls sk μ E ce sl) : Xj K d mc ms own cc nL pc ls (v :: sk) μ E ce sl := by
  obtain ⟨G, p, l, e, R, s, m, args, below, meth, c, A, Q⟩ := K
  intro F H locs la hP hD hS hl
  exact lv_pop F.1 F.2.1 dg (by rw [zcat_eq]; exact hv) (k F H locs la hP hD hS hl)
theorem j_dup2 {v u : zV} (dg : decode cc pc = .ok (.dup2, 1)) (hv : zcat v = 1) (hu : zcat u = 1) (k : Xj K d mc ms own cc nL (pc + 1) ls (v :: u :: v :: u :: sk) μ E ce sl) : Xj K d mc ms own cc nL pc ls (v :: u :: sk) μ E ce sl := by
  obtain ⟨G, p, l, e, R, s, m, args, below, meth, c, A, Q⟩ := K
  intro F H locs la hP hD hS hl
  exact lv_dup2_11 F.1 F.2.1 dg (by rw [zcat_eq]; exact hv) (by rw [zcat_eq]; exact hu) (k F H locs la hP hD hS hl)
theorem j_if_eq {x : Int32} {off : Int} {tgt : Nat} (dg : decode cc pc = .ok (.ifCond .eq off, 3)) (ht : (pc : Int) + off = (tgt : Int)) (kt : x = 0 → Xj K d mc ms own cc nL tgt ls sk μ E ce sl) (kf : ¬ x = 0 → Xj K d mc ms own cc nL (pc + 3) ls sk μ E ce sl) : Xj K d mc ms own cc nL pc ls (zI x :: sk) μ E ce sl := by
  obtain ⟨G, p, l, e, R, s, m, args, below, meth, c, A, Q⟩ := K
  intro F H locs la hP hD hS hl
  exact lv_if_eq F.1 F.2.1 dg ht (fun h => kt h F H locs la hP hD hS hl) (fun h => kf h F H locs la hP hD hS hl)
theorem j_icmp_eq {x y : Int32} {off : Int} {tgt : Nat} (dg : decode cc pc = .ok (.if_icmp .eq off, 3)) (ht : (pc : Int) + off = (tgt : Int)) (kt : x = y → Xj K d mc ms own cc nL tgt ls sk μ E ce sl) (kf : ¬ x = y → Xj K d mc ms own cc nL (pc + 3) ls sk μ E ce sl) : Xj K d mc ms own cc nL pc ls (zI y :: zI x :: sk) μ E ce sl := by
  obtain ⟨G, p, l, e, R, s, m, args, below, meth, c, A, Q⟩ := K
  intro F H locs la hP hD hS hl
  exact lv_icmp_eq F.1 F.2.1 dg ht (fun h => kt h F H locs la hP hD hS hl) (fun h => kf h F H locs la hP hD hS hl)
theorem j_if_ne {x : Int32} {off : Int} {tgt : Nat} (dg : decode cc pc = .ok (.ifCond .ne off, 3)) (ht : (pc : Int) + off = (tgt : Int)) (kt : ¬ x = 0 → Xj K d mc ms own cc nL tgt ls sk μ E ce sl) (kf : x = 0 → Xj K d mc ms own cc nL (pc + 3) ls sk μ E ce sl) : Xj K d mc ms own cc nL pc ls (zI x :: sk) μ E ce sl := by
  obtain ⟨G, p, l, e, R, s, m, args, below, meth, c, A, Q⟩ := K
  intro F H locs la hP hD hS hl
  exact lv_if_ne F.1 F.2.1 dg ht (fun h => kt h F H locs la hP hD hS hl) (fun h => kf h F H locs la hP hD hS hl)
theorem j_icmp_ne {x y : Int32} {off : Int} {tgt : Nat} (dg : decode cc pc = .ok (.if_icmp .ne off, 3)) (ht : (pc : Int) + off = (tgt : Int)) (kt : ¬ x = y → Xj K d mc ms own cc nL tgt ls sk μ E ce sl) (kf : x = y → Xj K d mc ms own cc nL (pc + 3) ls sk μ E ce sl) : Xj K d mc ms own cc nL pc ls (zI y :: zI x :: sk) μ E ce sl := by
  obtain ⟨G, p, l, e, R, s, m, args, below, meth, c, A, Q⟩ := K
  intro F H locs la hP hD hS hl
  exact lv_icmp_ne F.1 F.2.1 dg ht (fun h => kt h F H locs la hP hD hS hl) (fun h => kf h F H locs la hP hD hS hl)
theorem j_if_lt {x : Int32} {off : Int} {tgt : Nat} (dg : decode cc pc = .ok (.ifCond .lt off, 3)) (ht : (pc : Int) + off = (tgt : Int)) (kt : x < 0 → Xj K d mc ms own cc nL tgt ls sk μ E ce sl) (kf : ¬ x < 0 → Xj K d mc ms own cc nL (pc + 3) ls sk μ E ce sl) : Xj K d mc ms own cc nL pc ls (zI x :: sk) μ E ce sl := by
  obtain ⟨G, p, l, e, R, s, m, args, below, meth, c, A, Q⟩ := K
  intro F H locs la hP hD hS hl
  exact lv_if_lt F.1 F.2.1 dg ht (fun h => kt h F H locs la hP hD hS hl) (fun h => kf h F H locs la hP hD hS hl)
theorem j_icmp_lt {x y : Int32} {off : Int} {tgt : Nat} (dg : decode cc pc = .ok (.if_icmp .lt off, 3)) (ht : (pc : Int) + off = (tgt : Int)) (kt : x < y → Xj K d mc ms own cc nL tgt ls sk μ E ce sl) (kf : ¬ x < y → Xj K d mc ms own cc nL (pc + 3) ls sk μ E ce sl) : Xj K d mc ms own cc nL pc ls (zI y :: zI x :: sk) μ E ce sl := by
  obtain ⟨G, p, l, e, R, s, m, args, below, meth, c, A, Q⟩ := K
  intro F H locs la hP hD hS hl
  exact lv_icmp_lt F.1 F.2.1 dg ht (fun h => kt h F H locs la hP hD hS hl) (fun h => kf h F H locs la hP hD hS hl)
theorem j_if_ge {x : Int32} {off : Int} {tgt : Nat} (dg : decode cc pc = .ok (.ifCond .ge off, 3)) (ht : (pc : Int) + off = (tgt : Int)) (kt : 0 ≤ x → Xj K d mc ms own cc nL tgt ls sk μ E ce sl) (kf : ¬ 0 ≤ x → Xj K d mc ms own cc nL (pc + 3) ls sk μ E ce sl) : Xj K d mc ms own cc nL pc ls (zI x :: sk) μ E ce sl := by
  obtain ⟨G, p, l, e, R, s, m, args, below, meth, c, A, Q⟩ := K
  intro F H locs la hP hD hS hl
  exact lv_if_ge F.1 F.2.1 dg ht (fun h => kt h F H locs la hP hD hS hl) (fun h => kf h F H locs la hP hD hS hl)
theorem j_icmp_ge {x y : Int32} {off : Int} {tgt : Nat} (dg : decode cc pc = .ok (.if_icmp .ge off, 3)) (ht : (pc : Int) + off = (tgt : Int)) (kt : y ≤ x → Xj K d mc ms own cc nL tgt ls sk μ E ce sl) (kf : ¬ y ≤ x → Xj K d mc ms own cc nL (pc + 3) ls sk μ E ce sl) : Xj K d mc ms own cc nL pc ls (zI y :: zI x :: sk) μ E ce sl := by
  obtain ⟨G, p, l, e, R, s, m, args, below, meth, c, A, Q⟩ := K
  intro F H locs la hP hD hS hl
  exact lv_icmp_ge F.1 F.2.1 dg ht (fun h => kt h F H locs la hP hD hS hl) (fun h => kf h F H locs la hP hD hS hl)
theorem j_if_gt {x : Int32} {off : Int} {tgt : Nat} (dg : decode cc pc = .ok (.ifCond .gt off, 3)) (ht : (pc : Int) + off = (tgt : Int)) (kt : 0 < x → Xj K d mc ms own cc nL tgt ls sk μ E ce sl) (kf : ¬ 0 < x → Xj K d mc ms own cc nL (pc + 3) ls sk μ E ce sl) : Xj K d mc ms own cc nL pc ls (zI x :: sk) μ E ce sl := by
  obtain ⟨G, p, l, e, R, s, m, args, below, meth, c, A, Q⟩ := K
  intro F H locs la hP hD hS hl
  exact lv_if_gt F.1 F.2.1 dg ht (fun h => kt h F H locs la hP hD hS hl) (fun h => kf h F H locs la hP hD hS hl)
theorem j_icmp_gt {x y : Int32} {off : Int} {tgt : Nat} (dg : decode cc pc = .ok (.if_icmp .gt off, 3)) (ht : (pc : Int) + off = (tgt : Int)) (kt : y < x → Xj K d mc ms own cc nL tgt ls sk μ E ce sl) (kf : ¬ y < x → Xj K d mc ms own cc nL (pc + 3) ls sk μ E ce sl) : Xj K d mc ms own cc nL pc ls (zI y :: zI x :: sk) μ E ce sl := by
  obtain ⟨G, p, l, e, R, s, m, args, below, meth, c, A, Q⟩ := K
  intro F H locs la hP hD hS hl
  exact lv_icmp_gt F.1 F.2.1 dg ht (fun h => kt h F H locs la hP hD hS hl) (fun h => kf h F H locs la hP hD hS hl)
theorem j_if_le {x : Int32} {off : Int} {tgt : Nat} (dg : decode cc pc = .ok (.ifCond .le off, 3)) (ht : (pc : Int) + off = (tgt : Int)) (kt : x ≤ 0 → Xj K d mc ms own cc nL tgt ls sk μ E ce sl) (kf : ¬ x ≤ 0 → Xj K d mc ms own cc nL (pc + 3) ls sk μ E ce sl) : Xj K d mc ms own cc nL pc ls (zI x :: sk) μ E ce sl := by
  obtain ⟨G, p, l, e, R, s, m, args, below, meth, c, A, Q⟩ := K
  intro F H locs la hP hD hS hl
  exact lv_if_le F.1 F.2.1 dg ht (fun h => kt h F H locs la hP hD hS hl) (fun h => kf h F H locs la hP hD hS hl)
theorem j_icmp_le {x y : Int32} {off : Int} {tgt : Nat} (dg : decode cc pc = .ok (.if_icmp .le off, 3)) (ht : (pc : Int) + off = (tgt : Int)) (kt : x ≤ y → Xj K d mc ms own cc nL tgt ls sk μ E ce sl) (kf : ¬ x ≤ y → Xj K d mc ms own cc nL (pc + 3) ls sk μ E ce sl) : Xj K d mc ms own cc nL pc ls (zI y :: zI x :: sk) μ E ce sl := by
  obtain ⟨G, p, l, e, R, s, m, args, below, meth, c, A, Q⟩ := K
  intro F H locs la hP hD hS hl
  exact lv_icmp_le F.1 F.2.1 dg ht (fun h => kt h F H locs la hP hD hS hl) (fun h => kf h F H locs la hP hD hS hl)
theorem j_goto {off : Int} {tgt : Nat} (dg : decode cc pc = .ok (.goto off, 3)) (ht : (pc : Int) + off = (tgt : Int)) (k : Xj K d mc ms own cc nL tgt ls sk μ E ce sl) : Xj K d mc ms own cc nL pc ls sk μ E ce sl := by
  obtain ⟨G, p, l, e, R, s, m, args, below, meth, c, A, Q⟩ := K
  intro F H locs la hP hD hS hl
  exact lv_goto F.1 F.2.1 dg ht (k F H locs la hP hD hS hl)
theorem j_tabOut {dflt lo hi : Int} {offs : Array Int} {len : Nat} {x : Int32} {tgt : Nat} (dg : decode cc pc = .ok (.tableswitch dflt lo hi offs, len)) (h : x.toInt < lo ∨ hi < x.toInt) (ht : (pc : Int) + dflt = (tgt : Int)) (k : Xj K d mc ms own cc nL tgt ls sk μ E ce sl) : Xj K d mc ms own cc nL pc ls (zI x :: sk) μ E ce sl := by
  obtain ⟨G, p, l, e, R, s, m, args, below, meth, c, A, Q⟩ := K
  intro F H locs la hP hD hS hl
  exact lv_tableOut F.1 F.2.1 dg h ht (k F H locs la hP hD hS hl)
theorem j_tabIn {dflt lo hi : Int} {offs : Array Int} {len : Nat} {x : Int32} {off : Int} {tgt : Nat} (dg : decode cc pc = .ok (.tableswitch dflt lo hi offs, len)) (h1 : ¬ x.toInt < lo) (h2 : ¬ hi < x.toInt) (ho : offs[(x.toInt - lo).toNat]? = some off) (ht : (pc : Int) + off = (tgt : Int)) (k : Xj K d mc ms own cc nL tgt ls sk μ E ce sl) : Xj K d mc ms own cc nL pc ls (zI x :: sk) μ E ce sl := by
  obtain ⟨G, p, l, e, R, s, m, args, below, meth, c, A, Q⟩ := K
  intro F H locs la hP hD hS hl
  exact lv_tableIn F.1 F.2.1 dg h1 h2 ho ht (k F H locs la hP hD hS hl)
theorem j_ls {ls' : List zV} (h : ls = ls') (k : Xj K d mc ms own cc nL pc ls' sk μ E ce sl) : Xj K d mc ms own cc nL pc ls sk μ E ce sl := h ▸ k
theorem j_top {x y : Int32} (h : x = y) (k : Xj K d mc ms own cc nL pc ls (zI y :: sk) μ E ce sl) : Xj K d mc ms own cc nL pc ls (zI x :: sk) μ E ce sl := h ▸ k
theorem j_topl {x y : Int64} (h : x = y) (k : Xj K d mc ms own cc nL pc ls (zL y :: sk) μ E ce sl) : Xj K d mc ms own cc nL pc ls (zL x :: sk) μ E ce sl := h ▸ k
theorem j_E {E' : xE} (h : E = E') (k : Xj K d mc ms own cc nL pc ls sk μ E' ce sl) : Xj K d mc ms own cc nL pc ls sk μ E ce sl := h ▸ k
theorem j_bne {c : Prop} [Decidable c] {off : Int} {tgt : Nat} (dg : decode cc pc = .ok (.ifCond .ne off, 3)) (ht : (pc : Int) + off = (tgt : Int)) (kt : c → Xj K d mc ms own cc nL tgt ls sk μ E ce sl) (kf : ¬ c → Xj K d mc ms own cc nL (pc + 3) ls sk μ E ce sl) : Xj K d mc ms own cc nL pc ls (zI (zb c) :: sk) μ E ce sl :=
  j_if_ne dg ht (fun h => kt (Classical.byContradiction fun q => h (zb_0.mpr q))) (fun h => kf (zb_0.mp h))
theorem j_beq {c : Prop} [Decidable c] {off : Int} {tgt : Nat} (dg : decode cc pc = .ok (.ifCond .eq off, 3)) (ht : (pc : Int) + off = (tgt : Int)) (kt : ¬ c → Xj K d mc ms own cc nL tgt ls sk μ E ce sl) (kf : c → Xj K d mc ms own cc nL (pc + 3) ls sk μ E ce sl) : Xj K d mc ms own cc nL pc ls (zI (zb c) :: sk) μ E ce sl :=
  j_if_eq dg ht (fun h => kt (zb_0.mp h)) (fun h => kf (Classical.byContradiction fun q => h (zb_0.mpr q)))
/-! the law's arrays -/
theorem xw_at {G : zG} {k a n : Nat} {f : Nat → Int32} (h : E[k]? = some (a, n, f)) : (xW G μ E)[(zws G μ).length + k]? = some (a, zarI G n f) := by
  show (zws G μ ++ xw G E)[_]? = _
  rw [List.getElem?_append_right (by omega), Nat.add_sub_cancel_left]
  show (E.map _)[k]? = _
  rw [List.getElem?_map, h]
  rfl
theorem xw_set {G : zG} {k a n : Nat} {f g : Nat → Int32} (h : E[k]? = some (a, n, f)) : (xW G μ E).set ((zws G μ).length + k) (a, zarI G n g) = xW G μ (E.set k (a, n, g)) := by
  have e : ∀ (x y : va_W) (i : Nat) (v : Nat × va_E), (x ++ y).set (x.length + i) v = x ++ y.set i v := fun x y i v => by
    rw [List.set_append_right _ _ (by omega), Nat.add_sub_cancel_left]
  show (zws G μ ++ xw G E).set _ _ = _
  rw [e]
  show zws G μ ++ (E.map _).set k _ = zws G μ ++ (E.set k (a, n, g)).map _
  rw [List.map_set]
theorem j_iald {a n i k0 : Nat} {f : Nat → Int32} {j : Int32} (dg : decode cc pc = .ok (.iaload, 1)) (he : E[k0]? = some (a, n, f)) (hj : j = nI i) (hi : i < n) (hn : n < 5000) (k : Xj K d mc ms own cc nL (pc + 1) ls (zI (f i) :: sk) μ E ce sl) : Xj K d mc ms own cc nL pc ls (zI j :: xR a :: sk) μ E ce sl := by
  obtain ⟨G, p, l, e, R, s, m, args, below, meth, c, A, Q⟩ := K
  intro F H locs la hP hD hS hl
  have hi31 : i < 2 ^ 31 := by omega
  subst hj
  have hG : G.1 (99, a, 0) = a := F.2.2.2.2.2.2.2.2.2.2.2 a
  show W p l e R s m args below meth c H locs ce sl Q (F0 m pc la (.int (nI i) :: .ref (G.1 (99, a, 0)) :: sk.map (zc G.1)))
  rw [hG]
  refine va_iald (D := G.2.1) (cl := vwCl) F.1 F.2.1 F.2.2.2.2.2.1 hP _ 0 (xw_at he) rfl (vp_in_nI hi (by omega)) dg ?_
  rw [nI_clamp hi31]
  exact k F H locs la hP hD hS hl
theorem j_iast {a n i k0 : Nat} {f : Nat → Int32} {j x : Int32} (dg : decode cc pc = .ok (.iastore, 1)) (he : E[k0]? = some (a, n, f)) (hj : j = nI i) (hi : i < n) (hn : n < 5000) (k : Xj K d mc ms own cc nL (pc + 1) ls sk μ (E.set k0 (a, n, upd f i x)) ce sl) : Xj K d mc ms own cc nL pc ls (zI x :: zI j :: xR a :: sk) μ E ce sl := by
  obtain ⟨G, p, l, e, R, s, m, args, below, meth, c, A, Q⟩ := K
  intro F H locs la hP hD hS hl
  have hi31 : i < 2 ^ 31 := by omega
  subst hj
  have hG : G.1 (99, a, 0) = a := F.2.2.2.2.2.2.2.2.2.2.2 a
  show W p l e R s m args below meth c H locs ce sl Q (F0 m pc la (.int x :: .int (nI i) :: .ref (G.1 (99, a, 0)) :: sk.map (zc G.1)))
  rw [hG]
  refine va_iast (D := G.2.1) (cl := vwCl) F.1 F.2.1 F.2.2.2.2.2.1 hP hD hS _ 0 (xw_at he) rfl (vp_in_nI hi (by omega)) dg fun H1 locs1 hP1 hD1 hS1 => ?_
  rw [nI_clamp hi31] at hP1 hD1
  have e : (xW G μ E).set ((zws G μ).length + k0) (a, .inl (G.2.2 0, n, .inl (upd f i x))) = xW G μ (E.set k0 (a, n, upd f i x)) := xw_set he
  rw [e] at hP1 hD1
  exact k F H1 locs1 la hP1 hD1 hS1 hl
theorem j_newI {n : Int32} {N : Nat} (dg : decode cc pc = .ok (.newarray .int, 2)) (hn : n = nI N) (hN : N < 5000) (hc : ce + 1 ≤ mc) (hs : sl + N ≤ ms) (k : ∀ q, Xj K d mc ms own cc nL (pc + 2) ls (xR q :: sk) μ ((q, N, fun _ => 0) :: E) (ce + 1) (sl + N)) : Xj K d mc ms own cc nL pc ls (zI n :: sk) μ E ce sl := by
  obtain ⟨G, p, l, e, R, s, m, args, below, meth, c, A, Q⟩ := K
  intro F H locs la hP hD hS hl
  obtain ⟨hx, hb, hml, hown, hts, hK, hA, hSt, hTb, hroom, hfr, hG⟩ := id F
  refine va_newa (D := G.2.1) (cl := vwCl) (atype := .int) (a0 := (N, .inl (fun _ => 0))) hx hb (hts _ tw_57) rfl hK hP hD hS hA (fun cA => rfl) (by rw [hn]; exact nI_pos (by omega)) (by rw [hn]; exact nI_clamp (by omega)) (by show N * 4 ≤ _; omega) (by omega) (by omega) dg (fun q cA H1 hK1 hP1 hD1 hS1 => ?_)
  have e : cA = G.2.2 0 := Option.some.inj ((hK1.2 6 (cA, .int) rfl).2.symm.trans (hK.2 0 _ rfl).2)
  subst e
  have hq : G.1 (99, q, 0) = q := hG q
  have k1 := k q F H1 locs la hP1.swap hD1.swap hS1 hl
  have k2 : W p l e R s m args below meth c H1 locs (ce + 1) (sl + N) Q (F0 m (pc + 2) la (.ref (G.1 (99, q, 0)) :: sk.map (zc G.1))) := k1
  rw [hq] at k2
  exact k2
theorem j_drop {x : Nat × Nat × (Nat → Int32)} (k : Xj K d mc ms own cc nL pc ls sk μ E ce sl) : Xj K d mc ms own cc nL pc ls sk μ (x :: E) ce sl := by
  obtain ⟨G, p, l, e, R, s, m, args, below, meth, c, A, Q⟩ := K
  intro F H locs la hP hD hS hl
  have at' : ∀ {i : Nat} {q : Nat × va_E}, (xW G μ E)[i]? = some q → ∃ i', (xW G μ (x :: E))[i']? = some q ∧ (i < (zws G μ).length ∧ i' = i ∨ (zws G μ).length ≤ i ∧ i' = i + 1) := fun {i q} h => by
    by_cases hi : i < (zws G μ).length
    · refine ⟨i, ?_, Or.inl ⟨hi, rfl⟩⟩
      have h' : (zws G μ ++ xw G E)[i]? = some q := h
      rw [List.getElem?_append_left hi] at h'
      show (zws G μ ++ xw G (x :: E))[i]? = some q
      rw [List.getElem?_append_left hi]
      exact h'
    · refine ⟨i + 1, ?_, Or.inr ⟨by omega, rfl⟩⟩
      have h' : (zws G μ ++ xw G E)[i]? = some q := h
      rw [List.getElem?_append_right (by omega)] at h'
      show (zws G μ ++ xw G (x :: E))[i + 1]? = some q
      rw [List.getElem?_append_right (by omega), show i + 1 - (zws G μ).length = (i - (zws G μ).length) + 1 by omega]
      exact h'
  refine k F H locs la (fun i q h => ?_) ⟨fun i j q r hi hj e => ?_, fun i q h => ?_⟩ hS hl
  · obtain ⟨i', h1, _⟩ := at' h
    exact hP i' q h1
  · obtain ⟨i', h1, c1⟩ := at' hi
    obtain ⟨j', h2, c2⟩ := at' hj
    have := hD.1 i' j' q r h1 h2 e
    omega
  · obtain ⟨i', h1, _⟩ := at' h
    exact hD.2 i' q h1
/-! ends -/
theorem j_zret {Po : zM → xE → zV → Prop} {μ0 : zM} {E0 : xE} {v : Int32} {ty : FieldType} (hR : xRet K mc ms μ0 E0 Po (some ty)) (dg : decode cc pc = .ok (.ireturn, 1)) (hn : narrow ty (.int v) = .int v) (h : Po μ E (zI v)) (h1 : ce ≤ mc) (h2 : sl ≤ ms) : Xj K d mc ms own cc nL pc ls [zI v] μ E ce sl := by
  obtain ⟨G, p, l, e, R, s, m, args, below, meth, c, A, Q⟩ := K
  intro F H locs la hP hD hS hl
  obtain ⟨rfl, rfl, hr, hlk⟩ := hR
  refine W.widen h1 h2 ?_
  exact W.zret F.1 F.2.1 hr hn (fun t ht hW => ⟨μ, E, zI v, rfl, h, by rw [ht]; exact hP, hD, hS.F ht⟩) hS.2.2 dg hlk
theorem j_iret {Po : zM → xE → zV → Prop} {μ0 : zM} {E0 : xE} {v : Int32} (hR : xRet K mc ms μ0 E0 Po (some .int)) (dg : decode cc pc = .ok (.ireturn, 1)) (h : Po μ E (zI v)) (h1 : ce ≤ mc) (h2 : sl ≤ ms) : Xj K d mc ms own cc nL pc ls [zI v] μ E ce sl := j_zret hR dg rfl h h1 h2
theorem j_bret {Po : zM → xE → zV → Prop} {μ0 : zM} {E0 : xE} {v : Int32} (hR : xRet K mc ms μ0 E0 Po (some .boolean)) (dg : decode cc pc = .ok (.ireturn, 1)) (h0 : v = 0 ∨ v = 1) (h : Po μ E (zI v)) (h1 : ce ≤ mc) (h2 : sl ≤ ms) : Xj K d mc ms own cc nL pc ls [zI v] μ E ce sl :=
  j_zret hR dg (by rcases h0 with rfl | rfl <;> rfl) h h1 h2
end XROWS
