/-! the rows over a smaller world: a list cs of cells (constructors) -/
def yws (wl : List zA) (G : zG) (μ : zM) : va_W := wl.map (fun a => (G.1 a, zent G a (μ a)))
def yP (wl : List zA) (G : zG) (μ : zM) (H : Heap) : Prop := va_P G.2.1 vwCl (yws wl G μ) H
def yInj (wl : List zA) (G : zG) : Prop := wl.Nodup ∧ ∀ a ∈ wl, ∀ b ∈ wl, G.1 a = G.1 b → a = b
def yfree (wl : List zA) (G : zG) : Nat → Prop := fun q => ∃ a ∈ wl, q = G.1 a
def yPre (wl : List zA) (G : zG) (μ : zM) (U : State) : Prop := va_K G.2.1 vwCl (zty G) U ∧ yInj wl G ∧ yP wl G μ U.heap ∧ zSt G (yfree wl G) U U.heap ∧ zNst U
def yQ (wl : List zA) (G : zG) (Po : zM → zV → Prop) : Array Value → State → Outcome → State → Prop := fun _ u oc t => ∃ (μ' : zM) (r : zV), oc = .returned (zret G r) ∧ Po μ' r ∧ yP wl G μ' t.heap ∧ va_F (yfree wl G) u t
def yCt (wl : List zA) (y : MethodName) (cc : ByteArray) (nL : Nat) (ret : Option FieldType) (d : Nat) (av : List zV) (μ : zM) (Po : zM → zV → Prop) : Prop :=
  ∀ (l : Launch) (G : zG), Met l y (.code y cc nL ret :: zT) (zrm d) (va_Pc (av.map (zc G.1)) (yPre wl G μ)) (yQ wl G Po) 0 0 (yfree wl G)
def yF (wl : List zA) (K : zK) (d : Nat) (own : String) (cc : ByteArray) (nL : Nat) : Prop := match K with
  | (G, p, _, _, R, s, m, args, _, _, c, A, _, ce, sl) => p.tables.exec = Jvm.exec ∧ c.code = cc ∧ c.maxLocals = nL ∧ s.vm.findClass own = some m.cls ∧ (∀ w ∈ zT, w.before args s = true) ∧ va_K G.2.1 vwCl (zty G) s ∧ yInj wl G ∧ (∀ a ∈ wl, A (G.1 a)) ∧ zSt G A s s.heap ∧ zNst s ∧ (ce ≤ R.cells ∧ sl ≤ R.slots) ∧ (d ≤ R.frames ∧ 40 * d ≤ R.locals)
def Yz (wl : List zA) (K : zK) (d : Nat) (own : String) (cc : ByteArray) (nL : Nat) (pc : Nat) (ls sk : List zV) (μ : zM) : Prop := match K with
  | (G, p, l, e, R, s, m, args, below, meth, c, A, Q, ce, sl) => yF wl (G, p, l, e, R, s, m, args, below, meth, c, A, Q, ce, sl) d own cc nL → ∀ (H : Heap) (locs : List Loc) (la : Array Slot), yP wl G μ H → va_S A s.heap H locs → lv_has la nL (zl G 0 ls) → W p l e R s m args below meth c H locs ce sl Q (F0 m pc la (sk.map (zc G.1)))
def yRet (wl : List zA) (K : zK) (Po : zM → zV → Prop) (ret : Option FieldType) : Prop := match K with
  | (G, _, _, _, _, s, _, args, below, meth, _, A, Q, ce, sl) => Q = MQ below (yQ wl G Po) args s ce sl A ∧ A = yfree wl G ∧ meth.sig.returnType = ret ∧ meth.locks = false
def yCv (wl : List zA) (y : MethodName) (cc : ByteArray) (nL : Nat) (ret : Option FieldType) (d : Nat) (av : List zV) (μ : zM) (P : zM → Prop) : Prop := yCt wl y cc nL ret d av μ (fun μ' r => r = zN ∧ P μ')
section YROWS
variable {wl : List zA}
theorem yws_get {G : zG} {μ : zM} {k : Nat} {a : zA} (h : wl[k]? = some a) : (yws wl G μ)[k]? = some (G.1 a, zent G a (μ a)) := by
  show (wl.map _)[k]? = _
  rw [List.getElem?_map, h]
  rfl
theorem y_at {G : zG} {a : zA} (μ : zM) (h : a ∈ wl) : ∃ k : Nat, wl[k]? = some a ∧ (yws wl G μ)[k]? = some (G.1 a, zent G a (μ a)) := by
  obtain ⟨k, hk⟩ := List.getElem?_of_mem h
  exact ⟨k, hk, yws_get hk⟩
theorem y_set (hnd : wl.Nodup) {G : zG} {μ : zM} {k : Nat} {a : zA} {f : Nat → Int32} (h : wl[k]? = some a) : (yws wl G μ).set k (G.1 a, zent G a f) = yws wl G (st μ a f) := by
  have hl : k < wl.length := (List.getElem?_eq_some_iff.mp h).1
  apply List.ext_getElem?
  intro j
  show ((wl.map _).set k _)[j]? = (wl.map _)[j]?
  by_cases hj : k = j
  · subst hj
    rw [List.getElem?_set_self (by rw [List.length_map]; exact hl), List.getElem?_map, h]
    show _ = some (G.1 a, zent G a (st μ a f a))
    rw [st_eq]
  · rw [List.getElem?_set_ne hj, List.getElem?_map, List.getElem?_map]
    cases hb : wl[j]? with
    | none => rfl
    | some b =>
      have hne : b ≠ a := by
        intro e
        subst e
        have h1 := ((List.getElem?_inj hl hnd).mp (h.trans hb.symm))
        exact hj h1
      show some (G.1 b, zent G b (μ b)) = some (G.1 b, zent G b (st μ a f b))
      rw [st_ne μ f hne]
theorem y_D {G : zG} {μ : zM} {A : Nat → Prop} (hi : yInj wl G) (hA : ∀ a ∈ wl, A (G.1 a)) : va_D A (yws wl G μ) := by
  have key : ∀ (k : Nat) (q : Nat × va_E), (yws wl G μ)[k]? = some q → ∃ a, wl[k]? = some a ∧ q.1 = G.1 a := by
    intro k q hq
    have h1 : (wl.map (fun a => (G.1 a, zent G a (μ a))))[k]? = some q := hq
    rw [List.getElem?_map] at h1
    cases hb : wl[k]? with
    | none => rw [hb] at h1; cases h1
    | some b =>
      rw [hb] at h1
      cases h1
      exact ⟨b, rfl, rfl⟩
  refine ⟨fun i j x y hx hy hxy => ?_, fun k q hq => ?_⟩
  · obtain ⟨a, ha, ea⟩ := key i x hx
    obtain ⟨b, hb, eb⟩ := key j y hy
    have hab : a = b := hi.2 a (List.mem_of_getElem? ha) b (List.mem_of_getElem? hb) (by rw [← ea, ← eb]; exact hxy)
    subst hab
    exact (List.getElem?_inj (List.getElem?_eq_some_iff.mp ha).1 hi.1).mp (ha.trans hb.symm)
  · obtain ⟨a, ha, ea⟩ := key k q hq
    rw [ea]
    exact hA a (List.mem_of_getElem? ha)
section YR
variable {K : zK} {d nL pc idx t i : Nat} {own : String} {cc : ByteArray} {ls ls' sk : List zV} {μ : zM}
theorem y_iconst {n : Int} {v : Int32} (dg : decode cc pc = .ok (.iconst n, 1)) (hv : Int32.ofInt n = v) (k : Yz wl K d own cc nL (pc + 1) ls (zI v :: sk) μ) : Yz wl K d own cc nL pc ls sk μ := by
  obtain ⟨G, p, l, e, R, s, m, args, below, meth, c, A, Q, ce, sl⟩ := K
  intro F H locs la hP hS hl
  exact lv_iconst F.1 F.2.1 dg hv (k F H locs la hP hS hl)
theorem y_bipush {n : Int} {v : Int32} (dg : decode cc pc = .ok (.bipush n, 2)) (hv : (Int8.ofInt n).toInt32 = v) (k : Yz wl K d own cc nL (pc + 2) ls (zI v :: sk) μ) : Yz wl K d own cc nL pc ls sk μ := by
  obtain ⟨G, p, l, e, R, s, m, args, below, meth, c, A, Q, ce, sl⟩ := K
  intro F H locs la hP hS hl
  exact lv_bipush F.1 F.2.1 dg hv (k F H locs la hP hS hl)
theorem y_sipush {n : Int} {v : Int32} (dg : decode cc pc = .ok (.sipush n, 3)) (hv : (Int16.ofInt n).toInt32 = v) (k : Yz wl K d own cc nL (pc + 3) ls (zI v :: sk) μ) : Yz wl K d own cc nL pc ls sk μ := by
  obtain ⟨G, p, l, e, R, s, m, args, below, meth, c, A, Q, ce, sl⟩ := K
  intro F H locs la hP hS hl
  exact lv_sipush F.1 F.2.1 dg hv (k F H locs la hP hS hl)
theorem y_iload_n {k : Fin 4} {i : Nat} {x : Int32} (dg : decode cc pc = .ok (.iload_n k, 1)) (hi : (k : Nat) = i) (hv : ls[i]? = some (zI x)) (k1 : Yz wl K d own cc nL (pc + 1) ls (zI x :: sk) μ) : Yz wl K d own cc nL pc ls sk μ := by
  obtain ⟨G, p, l, e, R, s, m, args, below, meth, c, A, Q, ce, sl⟩ := K
  intro F H locs la hP hS hl
  exact lv_iload_n F.1 F.2.1 dg hi (zl_at hl hv) (k1 F H locs la hP hS hl)
theorem y_aload_n {k : Fin 4} {i : Nat} {x : zA} (dg : decode cc pc = .ok (.aload_n k, 1)) (hi : (k : Nat) = i) (hv : ls[i]? = some (zR x)) (k1 : Yz wl K d own cc nL (pc + 1) ls (zR x :: sk) μ) : Yz wl K d own cc nL pc ls sk μ := by
  obtain ⟨G, p, l, e, R, s, m, args, below, meth, c, A, Q, ce, sl⟩ := K
  intro F H locs la hP hS hl
  exact lv_aload_n F.1 F.2.1 dg hi (zl_at hl hv) (k1 F H locs la hP hS hl)
theorem y_istore_n {k : Fin 4} {i : Nat} {x : Int32} (dg : decode cc pc = .ok (.istore_n k, 1)) (hi : (k : Nat) = i) (hn : i < nL) (k1 : Yz wl K d own cc nL (pc + 1) (zset ls i (zI x)) sk μ) : Yz wl K d own cc nL pc ls (zI x :: sk) μ := by
  obtain ⟨G, p, l, e, R, s, m, args, below, meth, c, A, Q, ce, sl⟩ := K
  intro F H locs la hP hS hl
  exact lv_istore_n F.1 F.2.1 dg hi hl hn rfl fun la' hl' => k1 F H locs la' hP hS (zl_set1 (v := zI x) hl')
theorem y_iinc {i : Nat} {n : Int} {x v : Int32} (dg : decode cc pc = .ok (.iinc i n, 3)) (hx : ls[i]? = some (zI x)) (hv : x + Int32.ofInt n = v) (hn : i < nL) (k : Yz wl K d own cc nL (pc + 3) (zset ls i (zI v)) sk μ) : Yz wl K d own cc nL pc ls sk μ := by
  obtain ⟨G, p, l, e, R, s, m, args, below, meth, c, A, Q, ce, sl⟩ := K
  intro F H locs la hP hS hl
  obtain ⟨k1, hk1⟩ := List.getElem?_of_mem ((zl_mem (G := G) ls 0).mpr ⟨i, _, hx, rfl⟩)
  rw [Nat.zero_add] at hk1
  exact lv_iinc F.1 F.2.1 dg hl hk1 hv hn rfl fun la' hl' => k F H locs la' hP hS (zl_set1 (v := zI v) hl')
theorem y_icmp_ge {x y : Int32} {off : Int} {tgt : Nat} (dg : decode cc pc = .ok (.if_icmp .ge off, 3)) (ht : (pc : Int) + off = (tgt : Int)) (kt : y ≤ x → Yz wl K d own cc nL tgt ls sk μ) (kf : ¬ y ≤ x → Yz wl K d own cc nL (pc + 3) ls sk μ) : Yz wl K d own cc nL pc ls (zI y :: zI x :: sk) μ := by
  obtain ⟨G, p, l, e, R, s, m, args, below, meth, c, A, Q, ce, sl⟩ := K
  intro F H locs la hP hS hl
  exact lv_icmp_ge F.1 F.2.1 dg ht (fun h => kt h F H locs la hP hS hl) (fun h => kf h F H locs la hP hS hl)
theorem y_goto {off : Int} {tgt : Nat} (dg : decode cc pc = .ok (.goto off, 3)) (ht : (pc : Int) + off = (tgt : Int)) (k : Yz wl K d own cc nL tgt ls sk μ) : Yz wl K d own cc nL pc ls sk μ := by
  obtain ⟨G, p, l, e, R, s, m, args, below, meth, c, A, Q, ce, sl⟩ := K
  intro F H locs la hP hS hl
  exact lv_goto F.1 F.2.1 dg ht (k F H locs la hP hS hl)
theorem y_vret {Po : zM → zV → Prop} (hR : yRet wl K Po none) (dg : decode cc pc = .ok (.return_, 1)) (h : Po μ zN) : Yz wl K d own cc nL pc ls [] μ := by
  obtain ⟨G, p, l, e, R, s, m, args, below, meth, c, A, Q, ce, sl⟩ := K
  intro F H locs la hP hS hl
  obtain ⟨rfl, rfl, hr, hlk⟩ := hR
  exact W.vret F.1 F.2.1 hr (fun t ht hW => ⟨μ, zN, rfl, h, by rw [ht]; exact hP, hS.F ht⟩) hS.2.2 dg hlk
theorem y_get {C : String} {T : u_T} {N ci i idx : Nat} {a : zA} {v : zV} (fs : zG → List Value) (hin : ∀ w ∈ u_ws C T N, w ∈ zT) (hc : vwCl[ci]? = some (C, T, N)) (hi : i < N) (hv : a ∈ wl) (he : ∀ G, zent G a (μ a) = .inr (ci, fs G)) (hx : ∀ G, (fs G)[i]? = some (zc G.1 v))
    (dg : decode cc pc = .ok (.getfield idx, 3)) (hl0 : Cond.fieldLink own idx (T i).1 (T i).2.1 (T i).2.2.1 ∈ zT) (k : Yz wl K d own cc nL (pc + 3) ls (v :: sk) μ) : Yz wl K d own cc nL pc ls (zR a :: sk) μ := by
  obtain ⟨G, p, l, e, R, s, m, args, below, meth, c, A, Q, ce, sl⟩ := K
  intro F H locs la hP hS hl
  obtain ⟨q0, hq, hw⟩ := y_at (G := G) μ hv
  rw [he G] at hw
  exact va_get (D := G.2.1) (cl := vwCl) F.1 F.2.1 F.2.2.2.2.1 hin F.2.2.2.1 F.2.2.2.2.2.1 hP q0 hw hc i hi (F.2.2.2.2.1 _ hl0) (fun _ h => h) (hx G) dg (k F H locs la hP hS hl)
theorem y_put {C : String} {T : u_T} {N ci i idx : Nat} {a : zA} {x : Int32} (ty0 : Nat → FieldType) (fs : zG → (Nat → Int32) → List Value) (hin : ∀ w ∈ u_ws C T N, w ∈ zT) (hty : ∀ k, k < N → parseFieldDescriptor (T k).2.2.1 = some (ty0 k)) (hnm : ∀ a, a < N → ∀ b, b < N → a ≠ b → (T a).2.1 ≠ (T b).2.1) (hc : vwCl[ci]? = some (C, T, N)) (hi : i < N) (hv : a ∈ wl) (he : ∀ G f, zent G a f = .inr (ci, fs G f)) (hx : ∀ G f, (fs G f).set i (.int x) = fs G (upd f i x))
    (hfin : (T i).2.2.2 = false) {ty : FieldType} (hd : parseFieldDescriptor (T i).2.2.1 = some ty) (hn : narrow ty (.int x) = .int x) (hfit : fits ty (.int x) = true) (hlen : ∀ G f, i < (fs G f).length)
    (dg : decode cc pc = .ok (.putfield idx, 3)) (hl0 : Cond.fieldLink own idx (T i).1 (T i).2.1 (T i).2.2.1 ∈ zT) (k : Yz wl K d own cc nL (pc + 3) ls sk (st μ a (upd (μ a) i x))) : Yz wl K d own cc nL pc ls (zI x :: zR a :: sk) μ := by
  obtain ⟨G, p, l, e, R, s, m, args, below, meth, c, A, Q, ce, sl⟩ := K
  intro F H locs la hP hS hl
  obtain ⟨q0, hq, hw⟩ := y_at (G := G) μ hv
  rw [he G] at hw
  refine va_put (D := G.2.1) (cl := vwCl) F.1 F.2.1 F.2.2.2.2.1 hin ty0 hty hnm F.2.2.2.1 F.2.2.2.2.2.1 hP (y_D F.2.2.2.2.2.2.1 F.2.2.2.2.2.2.2.1) hS q0 hw hc i hi (F.2.2.2.2.1 _ hl0) (fun _ h => h) hfin hd hn hfit (hlen G _) dg fun H1 locs1 hP1 _ hS1 => ?_
  change va_P G.2.1 vwCl ((yws wl G μ).set q0 (G.1 a, .inr (ci, (fs G (μ a)).set i (.int x)))) H1 at hP1
  rw [hx G, ← he G, y_set F.2.2.2.2.2.2.1.1 hq] at hP1
  exact k F H1 locs1 la hP1 hS1 hl
theorem y_iast {a : zA} {n i : Nat} {j x : Int32} (dg : decode cc pc = .ok (.iastore, 1)) (he : ∀ G f, zent G a f = zarI G n f) (hj : j = nI i) (hi : i < n) (k : Yz wl K d own cc nL (pc + 1) ls sk (st μ a (upd (μ a) i x))) (hv : a ∈ wl := by assumption) (hn : n < 5000 := by decide) : Yz wl K d own cc nL pc ls (zI x :: zI j :: zR a :: sk) μ := by
  obtain ⟨G, p, l, e, R, s, m, args, below, meth, c, A, Q, ce, sl⟩ := K
  intro F H locs la hP hS hl
  obtain ⟨q0, hq, hw⟩ := y_at (G := G) μ hv
  rw [he G] at hw
  have hi31 : i < 2 ^ 31 := by omega
  refine va_iast (D := G.2.1) (cl := vwCl) F.1 F.2.1 F.2.2.2.2.2.1 hP (y_D F.2.2.2.2.2.2.1 F.2.2.2.2.2.2.2.1) hS q0 0 hw (i := j) rfl (by rw [hj]; exact vp_in_nI hi (by omega)) dg fun H1 locs1 hP1 _ hS1 => ?_
  rw [hj, nI_clamp hi31] at hP1
  have e : ((yws wl G μ).set q0 (G.1 a, zarI G n (upd (μ a) i x))) = yws wl G (st μ a (upd (μ a) i x)) := by rw [← he G]; exact y_set F.2.2.2.2.2.2.1.1 hq
  have hP2 : va_P G.2.1 vwCl ((yws wl G μ).set q0 (G.1 a, zarI G n (upd (μ a) i x))) H1 := hP1
  rw [e] at hP2
  exact k F H1 locs1 la hP2 hS1 hl
theorem y_alen {a : zA} {n : Nat} (dg : decode cc pc = .ok (.arraylength, 1)) (he : ∀ G f, zent G a f = zarI G n f) (k : Yz wl K d own cc nL (pc + 1) ls (zI (nI n) :: sk) μ) (hv : a ∈ wl := by assumption) : Yz wl K d own cc nL pc ls (zR a :: sk) μ := by
  obtain ⟨G, p, l, e, R, s, m, args, below, meth, c, A, Q, ce, sl⟩ := K
  intro F H locs la hP hS hl
  obtain ⟨q0, hq, hw⟩ := y_at (G := G) μ hv
  rw [he G] at hw
  exact va_alen (D := G.2.1) (cl := vwCl) F.1 F.2.1 F.2.2.2.2.2.1 hP q0 0 hw (ty := .int) rfl rfl dg (k F H locs la hP hS hl)
theorem y_aald {a b : zA} {n i ct : Nat} {ty : FieldType} {j : Int32} (g : Nat → zA) (dg : decode cc pc = .ok (.aaload, 1)) (he : ∀ G f, zent G a f = zarR ct n G g) (hct : ∀ G, (zty G)[ct]? = some (G.2.2 ct, ty)) (hr : ty.isReference = true) (hj : j = nI i) (hi : i < n) (hb : g i = b) (k : Yz wl K d own cc nL (pc + 1) ls (zR b :: sk) μ) (hv : a ∈ wl) (hn : n < 5000) : Yz wl K d own cc nL pc ls (zI j :: zR a :: sk) μ := by
  obtain ⟨G, p, l, e, R, s, m, args, below, meth, c, A, Q, ce, sl⟩ := K
  intro F H locs la hP hS hl
  obtain ⟨q0, hq, hw⟩ := y_at (G := G) μ hv
  rw [he G] at hw
  have hi31 : i < 2 ^ 31 := by omega
  have hin : vp_in j n := by rw [hj]; exact vp_in_nI hi (by omega)
  have hcl : j.toNatClampNeg = i := by rw [hj]; exact nI_clamp hi31
  have hK := F.2.2.2.2.2.1
  refine W.aald (v := .ref (G.1 b)) (ty := ty) F.1 F.2.1 (hP q0 _ hw) ((hK.2 ct _ (hct G)).1 n (fun j => va_rf (some (G.1 (g j))))) hr (fun q => by cases q) (by show ¬ (j < 0 ∨ (arrV _ _ _).slots.size ≤ _); rw [arrV_size]; exact hin) ?_ rfl rfl dg (k F H locs la hP hS hl)
  show (arrV _ _ _).slots[_]? = _
  rw [hcl, arrV_read _ _ hi]
  show some (Value.ref (G.1 (g i))) = _
  rw [hb]
theorem y_ald10 {i t : Nat} {j : Int32} (dg : decode cc pc = .ok (.aaload, 1)) (hj : j = nI i) (hi : i < 3) (k : Yz wl K d own cc nL (pc + 1) ls (zR (11, t, i) :: sk) μ) (hv : (10, t, 0) ∈ wl := by assumption) : Yz wl K d own cc nL pc ls (zI j :: zR (10, t, 0) :: sk) μ :=
  y_aald (ty := .array .int) (fun j => (11, t, j)) dg (fun _ _ => rfl) (fun _ => rfl) rfl hj hi rfl k hv (by decide)
theorem y_getsN (dg : decode cc pc = .ok (.getstatic 59, 3)) (k : Yz wl K d "DyeTank$Tank" cc nL (pc + 3) ls (zR (40, 0, 0) :: sk) μ) : Yz wl K d "DyeTank$Tank" cc nL pc ls sk μ := by
  obtain ⟨G, p, l, e, R, s, m, args, below, meth, c, A, Q, ce, sl⟩ := K
  intro F H locs la hP hS hl
  exact va_getsN F.1 F.2.1 (F.2.2.2.2.2.2.2.2.1 40 (Or.inl rfl)).1 hS F.2.2.2.1 (va_Nw.use rfl F.2.2.2.2.2.2.2.2.2.1) (fun _ h => h) dg (k F H locs la hP hS hl)
theorem y_copyT {a1 : zA} {n1 idx : Nat} (dg : decode cc pc = .ok (.invokestatic idx, 3)) (hl0 : Cond.methodLink own idx arraycopyName ∈ zT) (h1 : ∀ G f, zent G a1 f = zarI G n1 f) (hn7 : 7 ≤ n1) (hr : 1 ≤ d ∧ zsum sk ≤ 8)
    (k : Yz wl K d own cc nL (pc + 3) ls sk (st μ a1 (va_cpy (fun j => (ztab 40).getD j 0) (μ a1) 0 0 7))) (hv1 : a1 ∈ wl := by assumption) : Yz wl K d own cc nL pc ls (zI 7 :: zI 0 :: zR a1 :: zI 0 :: zR (40, 0, 0) :: sk) μ := by
  obtain ⟨G, p, l, e, R, s, m, args, below, meth, c, A, Q, ce, sl⟩ := K
  intro F H locs la hP hS hl
  obtain ⟨q1, hq1, hw1⟩ := y_at (G := G) μ hv1
  rw [h1 G] at hw1
  have hts := F.2.2.2.2.1
  have hK := F.2.2.2.2.2.1
  have hD := y_D (μ := μ) F.2.2.2.2.2.2.1 F.2.2.2.2.2.2.2.1
  obtain ⟨cs, r1, r2, r3, r4, r5, r6, r7⟩ := (F.2.2.2.2.2.2.2.2.1 40 (Or.inl rfl)).2
  have hcs : H[G.1 (40, 0, 0)]? = some cs := by rw [hS.2.1 _ (Array.getElem?_eq_some_iff.mp r1).1 r7]; exact r1
  have hc1 : H[G.1 a1]? = some (vp_cell (G.2.2 0) (n1, .inl (μ a1))) := hP q1 _ hw1
  intro T hT X
  obtain ⟨hobj, k0, hk0, cm0, hkk0⟩ := r2
  obtain ⟨-, k1, hk1, cm1, hkk1⟩ := (hK.2 0 _ rfl).1 n1 (fun j => .int (μ a1 j))
  have hget : ∀ i, i < 7 → cs.slots.getD (0 + i) .null = .int ((ztab 40).getD i 0) := fun i hi => by
    rw [Array.getD_eq_getD_getElem?, Nat.zero_add, r6 i hi]
    rfl
  obtain ⟨vm', X', step⟩ := X.arraycopy F.1 F.2.2.2.1 (hts _ hl0) (hts _ tw_67) (hts _ tw_66) (hts _ tw_4) (src := G.1 (40, 0, 0)) (dst := G.1 a1) (cs := cs) (cd := vp_cell (G.2.2 0) (n1, .inl (μ a1))) (srcPos := 0) (destPos := 0) (n := 7) (by rw [hT]; exact hcs) (by rw [hT]; exact hc1)
    hobj (fun _ h => by cases h) r3 (fun h => by cases h) hk0 hk1 hkk0 hkk1 (by rfl) (by decide) (by decide) (by decide)
    (by show ¬ (0 : Int) + 7 > (cs.slots.size : Int); omega)
    (by show ¬ (0 : Int) + 7 > ((arrV (G.2.2 0) n1 (fun j => .int (μ a1 j))).slots.size : Int); rw [arrV_size]; omega)
    (fun vm₁ _ i hi => by
      have h7 : (7 : Int32).toNatClampNeg = 7 := by decide
      rw [h7] at hi
      have := hget i hi
      refine ⟨?_, ?_⟩
      · show fits .int (cs.slots.getD (0 + i) .null) = true
        rw [this]
        rfl
      · show (T.setVm vm₁).takes cm1 (cs.slots.getD (0 + i) .null)
        rw [this]
        exact trivial)
    (g := F0 m pc la ((zI 7 :: zI 0 :: zR a1 :: zI 0 :: zR (40, 0, 0) :: sk).map (zc G.1))) rfl (hl.1.trans F.2.2.1.symm) (rest := sk.map (zc G.1)) rfl (by rw [F.2.1]; exact dg) (by have := F.2.2.2.2.2.2.2.2.2.2.2.1; omega) (by
      have h9 := F.2.2.2.2.2.2.2.2.2.2.2.2
      show 2 * 0 + _ + _ ≤ _
      rw [zsum_eq]
      have h8 : nativeFrameWords "java/lang/System" "arraycopy" 5 + 11 ≤ 32 := by decide +kernel
      have := hr.2
      have := hr.1
      omega)
  have e0 : cs.stretch 0 7 = (vp_cell (G.2.2 0) (7, .inl (fun j => (ztab 40).getD j 0))).stretch 0 7 := by
    unfold Cell.stretch
    apply List.map_congr_left
    intro i hi
    have hi' := List.mem_range.mp hi
    rw [hget i hi']
    show _ = (arrV (G.2.2 0) 7 (fun j => .int ((ztab 40).getD j 0))).slots.getD (0 + i) .null
    rw [Array.getD_eq_getD_getElem?, arrV_read _ _ (by omega), Nat.zero_add]
    rfl
  have e1 : copied cs (vp_cell (G.2.2 0) (n1, .inl (μ a1))) 0 0 7 = vp_cell (G.2.2 0) (n1, .inl (va_cpy (fun j => (ztab 40).getD j 0) (μ a1) 0 0 7)) := by
    show (vp_cell (G.2.2 0) (n1, .inl (μ a1))).storeRun 0 (cs.stretch 0 7) = _
    rw [e0]
    exact va_copied (fun z => Value.int z) (G.2.2 0) (G.2.2 0) (n0 := 7) (sp := 0) (dp := 0) (n := 7) _ _ (by decide)
  rw [e1] at X' step
  have hl1 : G.1 a1 < H.size := (Array.getElem?_eq_some_iff.mp hc1).1
  have hheap : ((T.setVm vm').setCell (G.1 a1) (vp_cell (G.2.2 0) (n1, .inl (va_cpy (fun j => (ztab 40).getD j 0) (μ a1) 0 0 7)))).heap = H.setIfInBounds (G.1 a1) (vp_cell (G.2.2 0) (n1, .inl (va_cpy (fun j => (ztab 40).getD j 0) (μ a1) 0 0 7))) := by rw [← hT]; rfl
  have oq : ∀ q : Nat, q ≠ G.1 a1 → (H.setIfInBounds (G.1 a1) (vp_cell (G.2.2 0) (n1, .inl (va_cpy (fun j => (ztab 40).getD j 0) (μ a1) 0 0 7))))[q]? = H[q]? := fun q hq => by simp [Array.getElem?_setIfInBounds, Ne.symm hq]
  have hPn := hP.set hD hw1 (e := .inl (G.2.2 0, n1, .inl (va_cpy (fun j => (ztab 40).getD j 0) (μ a1) 0 0 7))) (show (H.setIfInBounds (G.1 a1) _)[G.1 a1]? = some _ by simp [Array.getElem?_setIfInBounds, hl1]) oq
  have e : ((yws wl G μ).set q1 (G.1 a1, zarI G n1 (va_cpy (fun j => (ztab 40).getD j 0) (μ a1) 0 0 7))) = yws wl G (st μ a1 (va_cpy (fun j => (ztab 40).getD j 0) (μ a1) 0 0 7)) := by rw [← h1 G]; exact y_set F.2.2.2.2.2.2.1.1 hq1
  have hP2 : va_P G.2.1 vwCl ((yws wl G μ).set q1 (G.1 a1, zarI G n1 (va_cpy (fun j => (ztab 40).getD j 0) (μ a1) 0 0 7))) _ := hPn
  rw [e] at hP2
  obtain ⟨t, a2, b2⟩ := k F _ _ la hP2 ⟨by simp; exact hS.1, fun q g1 g2 => by
      rw [oq q (fun e => g2 (by rw [e]; exact hD.2 q1 _ hw1))]
      exact hS.2.1 q g1 g2, fun q hq => by
      rcases List.mem_append.mp hq with h | h
      · exact hS.2.2 q h
      · obtain ⟨z, -, hz⟩ := List.mem_map.mp h
        rw [← hz]
        exact hD.2 q1 _ hw1⟩ hl _ hheap X'
  exact ⟨t, step t a2, b2⟩
theorem yPre_blind (G : zG) (μ : zM) (av : List Value) : FrameBlind (va_Pc av (yPre wl G μ)) := fun a U g mk h => ⟨h.1, va_K.moved (u := U) (U := U.calling g mk a) (Vm.Alike.refl U.vm) h.2.1, h.2.2.1, h.2.2.2.1, zSt.moved (u := U) (U := U.calling g mk a) (Vm.Alike.refl U.vm) h.2.2.2.2.1, va_Nw.same (u := U) (U := U.calling g mk a) rfl rfl h.2.2.2.2.2⟩
theorem y_run {p : Program} {l : Launch} {e : Env} {R : Room} {s : State} {m : MethodId} {args : Array Value} {below : List Frame} {meth : Method} {c : Code} {H : Heap} {locs : List Loc} {ce sl : Nat} {rest : List zV} {G : zG} {Po : zM → zV → Prop} {A : Nat → Prop} {Q : State → Prop} {la : Array Slot} {st0 : List Value} {aa : Array Value}
    (hr : va_Run p l e R s m args below meth c H locs ce sl 0 0 (F0 m pc la st0) (rest.map (zc G.1)) (yQ wl G Po aa) (yfree wl G)) (hS : va_S A s.heap H locs) (hA : ∀ a ∈ wl, A (G.1 a))
    (kk : ∀ (μ' : zM) (r : zV) (H1 : Heap) (locs1 : List Loc), Po μ' r → yP wl G μ' H1 → va_S A s.heap H1 locs1 → W p l e R s m args below meth c H1 locs1 ce sl Q (F0 m (pc + 3) la ((zret G r).toList ++ rest.map (zc G.1)))) : W p l e R s m args below meth c H locs ce sl Q (F0 m pc la st0) := by
  intro T hT X
  obtain ⟨v, u0, t, T', L, h0, X', hL, e1, e2, ⟨μ', r, hv, hp, hb, hz, hk⟩, stp⟩ := hr T hT X
  cases hv
  rw [h0] at hz hk
  have hfA : ∀ q, yfree wl G q → A q := fun q ⟨a, ha, e⟩ => by rw [e]; exact hA a ha
  obtain ⟨t2, a1, b1⟩ := kk μ' r T'.heap (locs ++ L) hp (by rw [e1]; exact hb)
    ⟨Nat.le_trans hS.1 (by rw [e1]; exact hz), fun q h1 h2 => by rw [e1, hk q (Nat.lt_of_lt_of_le h1 hS.1) (fun z => h2 (hfA q z))]; exact hS.2.1 q h1 h2, fun q hq => by
      rcases List.mem_append.mp hq with h | h
      · exact hS.2.2 q h
      · exact hfA _ (hL q h)⟩ T' rfl X'
  exact ⟨t2, stp t2 a1, b1⟩
theorem y_callS {y : MethodName} {cc' : ByteArray} {nL' n idx d' : Nat} {ret : Option FieldType} {av stk : List zV} {Po : zM → zV → Prop} (hm : zMs y cc' nL' ret n) (hl0 : Cond.methodLink own idx y ∈ zT) (dg : decode cc pc = .ok (.invokestatic idx, 3)) (hn : av.length = n) (hstk : stk = av.reverse ++ sk) (hd : d' < d) (hsk : zsum sk ≤ 8) (hC : yCt wl y cc' nL' ret d' av μ Po)
    (k : ∀ (μ' : zM) (r : zV), Po μ' r → Yz wl K d own cc nL (pc + 3) ls (zpush r sk) μ') : Yz wl K d own cc nL pc ls stk μ := by
  obtain ⟨G, p, l, e, R, s, m, args, below, meth, c, A, Q, ce, sl⟩ := K
  intro F H locs la hP hS hl
  obtain ⟨⟨hy, hpar, hcode, hini, hnL⟩, hstat⟩ := hm
  subst hstk
  have hts := F.2.2.2.2.1
  have hK := F.2.2.2.2.2.1
  have hR := F.2.2.2.2.2.2.2.2.2.2.2
  refine y_run (rest := sk) (va_runS (As := av.map (zc G.1)) ⟨F.1, F.2.1, F.2.2.1, F.2.2.2.1, hts⟩ (hC l G) ⟨callB_of (own := own) n hts (z_goodin hcode) rfl rfl rfl (hts _ hini) (hts _ hl0) ⟨hy.1, hy.2, hpar⟩ ⟨by show d' + 1 ≤ _; omega, by show _ + 40 * d' ≤ _; omega⟩, hts _ hstat⟩ ⟨yPre_blind G μ _, fun U hU hW => ⟨rfl, va_K.moved hW.alike hK, F.2.2.2.2.2.2.1, by rw [hU]; exact hP, ?_, va_Nw.warmF hW F.2.2.2.2.2.2.2.2.2.1⟩⟩ rfl (by rw [List.length_map]; exact hn) hl.1 (by show (List.map (zc G.1) _) = _; rw [List.map_append, List.map_reverse]) (lv_room (by rw [zsum_eq]; exact hsk)) dg ⟨F.2.2.2.2.2.2.2.2.2.2.1.1, F.2.2.2.2.2.2.2.2.2.2.1.2⟩) hS F.2.2.2.2.2.2.2.1 fun μ' r H1 locs1 hp hP1 hS1 => ?_
  · rw [hU]
    have h1 := zSt.kept (F.2.2.2.2.2.2.2.2.1) (H1 := H) hS.2.1
    exact zSt.moved hW.alike (zSt.narrow h1 fun q ⟨a, ha, e⟩ => by rw [e]; exact F.2.2.2.2.2.2.2.1 a ha)
  · rw [zret_push]
    exact k μ' r hp F H1 locs1 la hP1 hS1 hl
theorem yp_X2_rings {x : Int32} (dg : decode cc pc = .ok (.putfield idx, 3)) (hl0 : Cond.fieldLink own idx "DyeTank$Tank" "rings" "I" ∈ zT) (k : Yz wl K d own cc nL (pc + 3) ls sk (st μ (5, t, 0) (upd (μ (5, t, 0)) 0 x))) (hv : (5, t, 0) ∈ wl := by assumption) : Yz wl K d own cc nL pc ls (zI x :: zR (5, t, 0) :: sk) μ :=
  y_put (i := 0) (ty := .int) tyX2 _ zin2 tyX2_ok nmX2 rfl (by decide) hv (fun _ _ => rfl) (fun _ _ => rfl) rfl rfl rfl rfl (fun _ _ => Nat.le_of_ble_eq_true rfl) dg hl0 k
theorem yp_X2_time {x : Int32} (dg : decode cc pc = .ok (.putfield idx, 3)) (hl0 : Cond.fieldLink own idx "DyeTank$Tank" "time" "I" ∈ zT) (k : Yz wl K d own cc nL (pc + 3) ls sk (st μ (5, t, 0) (upd (μ (5, t, 0)) 1 x))) (hv : (5, t, 0) ∈ wl := by assumption) : Yz wl K d own cc nL pc ls (zI x :: zR (5, t, 0) :: sk) μ :=
  y_put (i := 1) (ty := .int) tyX2 _ zin2 tyX2_ok nmX2 rfl (by decide) hv (fun _ _ => rfl) (fun _ _ => rfl) rfl rfl rfl rfl (fun _ _ => Nat.le_of_ble_eq_true rfl) dg hl0 k
theorem yp_X2_markerCount {x : Int32} (dg : decode cc pc = .ok (.putfield idx, 3)) (hl0 : Cond.fieldLink own idx "DyeTank$Tank" "markerCount" "I" ∈ zT) (k : Yz wl K d own cc nL (pc + 3) ls sk (st μ (5, t, 0) (upd (μ (5, t, 0)) 2 x))) (hv : (5, t, 0) ∈ wl := by assumption) : Yz wl K d own cc nL pc ls (zI x :: zR (5, t, 0) :: sk) μ :=
  y_put (i := 2) (ty := .int) tyX2 _ zin2 tyX2_ok nmX2 rfl (by decide) hv (fun _ _ => rfl) (fun _ _ => rfl) rfl rfl rfl rfl (fun _ _ => Nat.le_of_ble_eq_true rfl) dg hl0 k
theorem yg_X2_settings (dg : decode cc pc = .ok (.getfield idx, 3)) (hl0 : Cond.fieldLink own idx "DyeTank$Tank" "settings" "[I" ∈ zT) (k : Yz wl K d own cc nL (pc + 3) ls (zR (6, t, 0) :: sk) μ) (hv : (5, t, 0) ∈ wl := by assumption) : Yz wl K d own cc nL pc ls (zR (5, t, 0) :: sk) μ :=
  y_get (i := 3) _ zin2 rfl (by decide) hv (fun _ => rfl) (fun _ => rfl) dg hl0 k
theorem yg_X2_momenta (dg : decode cc pc = .ok (.getfield idx, 3)) (hl0 : Cond.fieldLink own idx "DyeTank$Tank" "momenta" "[I" ∈ zT) (k : Yz wl K d own cc nL (pc + 3) ls (zR (7, t, 0) :: sk) μ) (hv : (5, t, 0) ∈ wl := by assumption) : Yz wl K d own cc nL pc ls (zR (5, t, 0) :: sk) μ :=
  y_get (i := 4) _ zin2 rfl (by decide) hv (fun _ => rfl) (fun _ => rfl) dg hl0 k
theorem yg_X2_angles (dg : decode cc pc = .ok (.getfield idx, 3)) (hl0 : Cond.fieldLink own idx "DyeTank$Tank" "angles" "[I" ∈ zT) (k : Yz wl K d own cc nL (pc + 3) ls (zR (8, t, 0) :: sk) μ) (hv : (5, t, 0) ∈ wl := by assumption) : Yz wl K d own cc nL pc ls (zR (5, t, 0) :: sk) μ :=
  y_get (i := 5) _ zin2 rfl (by decide) hv (fun _ => rfl) (fun _ => rfl) dg hl0 k
theorem yg_X2_totals (dg : decode cc pc = .ok (.getfield idx, 3)) (hl0 : Cond.fieldLink own idx "DyeTank$Tank" "totals" "[I" ∈ zT) (k : Yz wl K d own cc nL (pc + 3) ls (zR (9, t, 0) :: sk) μ) (hv : (5, t, 0) ∈ wl := by assumption) : Yz wl K d own cc nL pc ls (zR (5, t, 0) :: sk) μ :=
  y_get (i := 6) _ zin2 rfl (by decide) hv (fun _ => rfl) (fun _ => rfl) dg hl0 k
theorem yg_X2_dyes (dg : decode cc pc = .ok (.getfield idx, 3)) (hl0 : Cond.fieldLink own idx "DyeTank$Tank" "dyes" "[[I" ∈ zT) (k : Yz wl K d own cc nL (pc + 3) ls (zR (10, t, 0) :: sk) μ) (hv : (5, t, 0) ∈ wl := by assumption) : Yz wl K d own cc nL pc ls (zR (5, t, 0) :: sk) μ :=
  y_get (i := 7) _ zin2 rfl (by decide) hv (fun _ => rfl) (fun _ => rfl) dg hl0 k
theorem yg_X4_at (dg : decode cc pc = .ok (.getfield idx, 3)) (hl0 : Cond.fieldLink own idx "DyeTankModel" "at" "[I" ∈ zT) (k : Yz wl K d own cc nL (pc + 3) ls (zR (21, 0, 0) :: sk) μ) (hv : (20, 0, 0) ∈ wl := by assumption) : Yz wl K d own cc nL pc ls (zR (20, 0, 0) :: sk) μ :=
  y_get (i := 0) _ zin4 rfl (by decide) hv (fun _ => rfl) (fun _ => rfl) dg hl0 k
end YR
theorem yCt.of {y : MethodName} {cc : ByteArray} {nL d : Nat} {ret : Option FieldType} {av : List zV} {μ : zM} {Po : zM → zV → Prop} (own : String) (hown : y.cls = own) (hy : plainFor y = true) (h1 : zone av = true) (h2 : av.length ≤ nL) (h : ∀ K : zK, yRet wl K Po ret → Yz wl K d own cc nL 0 (av ++ List.replicate (nL - av.length) zN) [] μ) : yCt wl y cc nL ret d av μ Po := by
  intro l G
  refine Met.ofWF (cc := cc) (maxL := nL) (ret := ret) hy rfl ?_
  intro p e s m args below meth c s₁ B hml hv
  obtain ⟨rfl, hK, hI, hP, hSt, hNs⟩ := hv
  have hts0 := atoms_spec (ws := .code y cc nL ret :: zT) B.pre
  have hts : ∀ w ∈ zT, w.before (av.map (zc G.1)).toArray s = true := fun w hw => hts0 w (List.mem_cons_of_mem _ hw)
  have ho : s.vm.findClass own = some m.cls := by rw [← hown]; exact findClass_of_methodNamed B.named
  have hz := h (G, p, l, e, zrm d, s, m, (av.map (zc G.1)).toArray, below, meth, c, yfree wl G, MQ below (yQ wl G Po) (av.map (zc G.1)).toArray s 0 0 (yfree wl G), 0, 0) ⟨rfl, rfl, B.returns, B.notSynchronized⟩
  rw [lg_entry_eq]
  exact hz ⟨B.exec, B.bytes, hml, ho, hts, hK, hI, fun a ha => ⟨a, ha, rfl⟩, hSt, hNs, ⟨Nat.zero_le _, Nat.zero_le _⟩, ⟨Nat.le_refl _, Nat.le_refl _⟩⟩ s.heap [] _ hP va_S.rf (lv_less (lv_entry (av.map (zc G.1)) (n := nL) (by rw [lg_sl_one G.1 av h1]; exact h2)) (zl_entry av _ 0 h1))
section YC
variable {K : zK} {d nL pc : Nat} {own : String} {cc : ByteArray} {ls sk : List zV} {μ : zM} {y : MethodName} {cc' : ByteArray} {nL' n idx ci d' : Nat} {ret : Option FieldType} {a : zA} {av stk : List zV}
theorem y_cSv {P : zM → Prop} (hC : yCv wl y cc' nL' ret d' av μ P) (hm : zMs y cc' nL' ret n) (hl0 : Cond.methodLink own idx y ∈ zT) (dg : decode cc pc = .ok (.invokestatic idx, 3)) (hn : av.length = n) (hstk : stk = av.reverse ++ sk) (hd : d' < d) (hsk : zsum sk ≤ 8) (k : ∀ (μ' : zM), P μ' → Yz wl K d own cc nL (pc + 3) ls sk μ') : Yz wl K d own cc nL pc ls stk μ :=
  y_callS hm hl0 dg hn hstk hd hsk hC (fun μ' r h => by obtain ⟨rfl, h⟩ := h; exact k μ' h)
end YC
section YS
variable {K : zK} {d nL pc i : Nat} {own : String} {cc : ByteArray} {ls ls' sk : List zV} {μ : zM}
theorem y_ls (h : ls = ls') (k : Yz wl K d own cc nL pc ls' sk μ) : Yz wl K d own cc nL pc ls sk μ := h ▸ k
theorem y_mu {μ' : zM} (h : μ = μ') (k : Yz wl K d own cc nL pc ls sk μ') : Yz wl K d own cc nL pc ls sk μ := h ▸ k
theorem y_istS_n {k : Fin 4} {x : Int32} (dg : decode cc pc = .ok (.istore_n k, 1)) (hi : (k : Nat) = i) (hn : i < nL) (hz : zokb ls i = true) (k1 : Yz wl K d own cc nL (pc + 1) (ls.set i (zI x)) sk μ) : Yz wl K d own cc nL pc ls (zI x :: sk) μ := y_istore_n dg hi hn (by rw [zset_eq hz]; exact k1)
theorem y_incS {n : Int} {x v : Int32} (dg : decode cc pc = .ok (.iinc i n, 3)) (hx : ls[i]? = some (zI x)) (hv : x + Int32.ofInt n = v) (hn : i < nL) (hz : zokb ls i = true) (k1 : Yz wl K d own cc nL (pc + 3) (ls.set i (zI v)) sk μ) : Yz wl K d own cc nL pc ls sk μ := y_iinc dg hx hv hn (by rw [zset_eq hz]; exact k1)
theorem y_gen {K : zK} {d nL pc : Nat} {own : String} {cc : ByteArray} {ls sk : List zV} {μ : zM} (P : zM → Prop) (h : P μ) (k : ∀ μ', P μ' → Yz wl K d own cc nL pc ls sk μ') : Yz wl K d own cc nL pc ls sk μ := k μ h
end YS
theorem y_fill (μ : zM) (a : zA) (n : Nat) (hv : a ∈ wl) (he : ∀ G f, zent G a f = zarI G n f) (hn : n < 5000) (v : Int32) : yCv wl yJ7_fill_53178 prog_9_method_103_code 4 (none : Option Jvm.ClassFile.FieldType) 1 [zR a, zI v] μ (fun μ' => μ' = st μ a (fun k => if k < n then v else μ a k)) := by
  refine yCt.of "java/util/Arrays" rfl (by decide +kernel) rfl (Nat.le_of_ble_eq_true rfl) (fun K hR => ?_)
  have loop : ∀ (f i : Nat), i ≤ n → n < i + f → Yz wl K 1 "java/util/Arrays" prog_9_method_103_code 4 5 [zR a, zI v, zI (nI i), zI (nI n)] [] (st μ a (fun k => if k < i then v else μ a k)) := by
    intro f
    induction f with
    | zero => intro i h1 h2; exact absurd ‹_ < _ + 0› (by omega)
    | succ f ih =>
      intro i h1 h2
      refine y_iload_n dJ7_fill_53178_5 rfl rfl ?_
      refine y_iload_n dJ7_fill_53178_6 rfl rfl ?_
      refine y_icmp_ge (tgt := 20) dJ7_fill_53178_7 (by decide) (fun hb => ?_) (fun hb => ?_)
      · have hb := nle hb
        have e : i = n := by omega
        subst e
        refine y_vret hR dJ7_fill_53178_20 (⟨rfl, rfl⟩)
      · have hb := nnle hb
        refine y_aload_n dJ7_fill_53178_10 rfl rfl ?_
        refine y_iload_n dJ7_fill_53178_11 rfl rfl ?_
        refine y_iload_n dJ7_fill_53178_12 rfl rfl ?_
        refine y_iast dJ7_fill_53178_13 he rfl hb ?_ hv hn
        refine y_incS dJ7_fill_53178_14 rfl (inc1 _) (by decide) rfl ?_
        refine y_goto (tgt := 5) dJ7_fill_53178_17 (by decide) ?_
        refine y_mu ?_ (ih (i + 1) (by omega) (by omega))
        rw [st_upd]
        congr 1
        funext k
        unfold upd
        by_cases h : k = i
        · subst h
          rw [if_pos rfl, if_pos (by omega)]
        · rw [if_neg h]
          show (if k < i then v else μ a k) = _
          by_cases h3 : k < i
          · rw [if_pos h3, if_pos (by omega)]
          · rw [if_neg h3, if_neg (by omega)]
  refine y_ls (ls' := [zR a, zI v, zN, zN]) rfl ?_
  refine y_iconst (v := 0) dJ7_fill_53178_0 (by decide) ?_
  refine y_istS_n dJ7_fill_53178_1 rfl (by decide) rfl ?_
  refine y_aload_n dJ7_fill_53178_2 rfl rfl ?_
  refine y_alen dJ7_fill_53178_3 he ?_ hv
  refine y_istS_n dJ7_fill_53178_4 rfl (by decide) rfl ?_
  refine y_mu ?_ (loop (n + 1) 0 (by omega) (by omega))
  have e : (fun k => if k < 0 then v else μ a k) = μ a := by funext k; exact if_neg (by omega)
  rw [e, st_self]
theorem y_startAgain (μ : zM) (t : Nat) (v5 : (5, t, 0) ∈ wl) (v6 : (6, t, 0) ∈ wl) (v7 : (7, t, 0) ∈ wl) (v8 : (8, t, 0) ∈ wl) (v9 : (9, t, 0) ∈ wl) (v10 : (10, t, 0) ∈ wl) (h11 : ∀ i, i < 3 → (11, t, i) ∈ wl) (n : Int32) : yCv wl yX2_startAgain prog_4_method_2_code 3 (none : Option Jvm.ClassFile.FieldType) 2 [zR (5, t, 0), zI n] μ (fun μ' => zoffK [5, 6, 7, 8, 9, 11] t μ μ' ∧ μ' (5, t, 0) 0 = n ∧ μ' (5, t, 0) 1 = 0 ∧ μ' (5, t, 0) 2 = 0 ∧ (∀ j, j < 7 → μ' (6, t, 0) j = (ztab 40).getD j 0) ∧ (∀ j, j < 12 → μ' (7, t, 0) j = 0) ∧ (∀ j, j < 12 → μ' (8, t, 0) j = 0) ∧ (∀ j, j < 3 → μ' (9, t, 0) j = 0) ∧ ∀ c, c < 3 → ∀ i, i < 576 → μ' (11, t, c) i = 0) := by
  refine yCt.of "DyeTank$Tank" rfl (by decide +kernel) rfl (Nat.le_of_ble_eq_true rfl) (fun K hR => ?_)
  refine y_ls (ls' := [zR (5, t, 0), zI n, zN]) rfl ?_
  refine y_aload_n dX2_startAgain_0 rfl rfl ?_
  refine y_iload_n dX2_startAgain_1 rfl rfl ?_
  refine yp_X2_rings dX2_startAgain_2 tw_71 ?_
  refine y_aload_n dX2_startAgain_5 rfl rfl ?_
  refine y_iconst (v := 0) dX2_startAgain_6 (by decide) ?_
  refine yp_X2_time dX2_startAgain_7 tw_73 ?_
  refine y_aload_n dX2_startAgain_10 rfl rfl ?_
  refine y_iconst (v := 0) dX2_startAgain_11 (by decide) ?_
  refine yp_X2_markerCount dX2_startAgain_12 tw_75 ?_
  refine y_getsN dX2_startAgain_15 ?_
  refine y_iconst (v := 0) dX2_startAgain_18 (by decide) ?_
  refine y_aload_n dX2_startAgain_19 rfl rfl ?_
  refine yg_X2_settings dX2_startAgain_20 tw_77 ?_
  refine y_iconst (v := 0) dX2_startAgain_23 (by decide) ?_
  refine y_bipush (v := 7) dX2_startAgain_24 (by decide) ?_
  refine y_copyT dX2_startAgain_26 tw_65 (fun _ _ => rfl) (by decide) ⟨by omega, Nat.le_of_ble_eq_true rfl⟩ ?_
  refine y_gen (fun μ' => zoffK [5, 6, 7, 8, 9, 11] t μ μ' ∧ μ' (5, t, 0) 0 = n ∧ μ' (5, t, 0) 1 = 0 ∧ μ' (5, t, 0) 2 = 0 ∧ (∀ j, j < 7 → μ' (6, t, 0) j = (ztab 40).getD j 0)) ⟨?_, by simp [st, upd], by simp [st, upd], by simp [st, upd], ?_⟩ (fun μ1 hh => ?_)
  · exact (((zoffK.rf.put (5, t, 0) _).put (5, t, 0) _).put (5, t, 0) _).put (6, t, 0) _
  · intro j hj
    rw [st_eq]
    unfold va_cpy
    rw [if_pos (by omega), Nat.zero_add, Nat.sub_zero]
  obtain ⟨o1, a0, a1, a2, a6⟩ := hh
  refine y_aload_n dX2_startAgain_29 rfl rfl ?_
  refine yg_X2_momenta dX2_startAgain_30 tw_79 ?_
  refine y_iconst (v := 0) dX2_startAgain_33 (by decide) ?_
  refine y_cSv (y_fill _ (7, t, 0) 12 v7 (fun _ _ => rfl) (by decide) 0) q_J7_fill_53178 tw_68 dX2_startAgain_34 rfl rfl (by omega) (Nat.le_of_ble_eq_true rfl) (fun μ2 h2' => ?_)
  refine y_aload_n dX2_startAgain_37 rfl rfl ?_
  refine yg_X2_angles dX2_startAgain_38 tw_81 ?_
  refine y_iconst (v := 0) dX2_startAgain_41 (by decide) ?_
  refine y_cSv (y_fill _ (8, t, 0) 12 v8 (fun _ _ => rfl) (by decide) 0) q_J7_fill_53178 tw_68 dX2_startAgain_42 rfl rfl (by omega) (Nat.le_of_ble_eq_true rfl) (fun μ3 h3 => ?_)
  refine y_aload_n dX2_startAgain_45 rfl rfl ?_
  refine yg_X2_totals dX2_startAgain_46 tw_83 ?_
  refine y_iconst (v := 0) dX2_startAgain_49 (by decide) ?_
  refine y_cSv (y_fill _ (9, t, 0) 3 v9 (fun _ _ => rfl) (by decide) 0) q_J7_fill_53178 tw_68 dX2_startAgain_50 rfl rfl (by omega) (Nat.le_of_ble_eq_true rfl) (fun μ4 h4 => ?_)
  have loop : ∀ (f i : Nat) (μ' : zM), i ≤ 3 → 3 < i + f → zoffK [11] t μ4 μ' → (∀ c, c < i → ∀ i, i < 576 → μ' (11, t, c) i = 0) → Yz wl K 2 "DyeTank$Tank" prog_4_method_2_code 3 55 [zR (5, t, 0), zI n, zI (nI i)] [] μ' := by
    intro f
    induction f with
    | zero => intro i μ' h1 h2 h3 h4; exact absurd ‹_ < _ + 0› (by omega)
    | succ f ih =>
      intro i μ' h1 h2 ho hd
      refine y_iload_n dX2_startAgain_55 rfl rfl ?_
      refine y_iconst (v := 3) dX2_startAgain_56 (by decide) ?_
      refine y_icmp_ge (tgt := 76) dX2_startAgain_57 (by decide) (fun hb => ?_) (fun hb => ?_)
      · have hb := nle (a := 3) hb
        have e : i = 3 := by omega
        subst e
        have q7 := ho.at (7, t, 0)
        have q8 := ho.at (8, t, 0)
        have q9 := ho.at (9, t, 0)
        have q5 := ho.at (5, t, 0)
        have q6 := ho.at (6, t, 0)
        rw [h4] at q7 q8 q9 q5 q6
        rw [h3] at q7 q8 q5 q6
        rw [h2'] at q7 q5 q6
        refine y_vret hR dX2_startAgain_76 (⟨rfl, ?_, ?_, ?_, ?_, ?_, ?_, ?_, ?_, hd⟩)
        · refine zoffK.tr ?_ ho (by simp)
          rw [h4, h3, h2']
          exact ((o1.put (7, t, 0) _).put (8, t, 0) _).put (9, t, 0) _
        · rw [q5]; simp [st, a0]
        · rw [q5]; simp [st, a1]
        · rw [q5]; simp [st, a2]
        · intro j hj
          rw [q6]
          simp only [st_ne _ _ (show ((6, t, 0) : zA) ≠ (9, t, 0) by simp), st_ne _ _ (show ((6, t, 0) : zA) ≠ (8, t, 0) by simp), st_ne _ _ (show ((6, t, 0) : zA) ≠ (7, t, 0) by simp)]
          exact a6 j hj
        · intro j hj
          rw [q7]
          simp [st, hj]
        · intro j hj
          rw [q8]
          simp [st, hj]
        · intro j hj
          rw [q9]
          simp [st, hj]
      · have hb := nnle (a := 3) hb
        have v11 := h11 i hb
        refine y_aload_n dX2_startAgain_60 rfl rfl ?_
        refine yg_X2_dyes dX2_startAgain_61 tw_85 ?_
        refine y_iload_n dX2_startAgain_64 rfl rfl ?_
        refine y_ald10 dX2_startAgain_65 rfl hb ?_
        refine y_iconst (v := 0) dX2_startAgain_66 (by decide) ?_
        refine y_cSv (y_fill _ (11, t, i) 576 v11 (fun _ _ => rfl) (by decide) 0) q_J7_fill_53178 tw_68 dX2_startAgain_67 rfl rfl (by omega) (Nat.le_of_ble_eq_true rfl) (fun μ5 h5 => ?_)
        refine y_incS dX2_startAgain_70 rfl (inc1 _) (by decide) rfl ?_
        refine y_goto (tgt := 55) dX2_startAgain_73 (by decide) ?_
        refine ih (i + 1) μ5 (by omega) (by omega) (by rw [h5]; exact ho.put (11, t, i) _) ?_
        intro c hc j hj
        rw [h5]
        by_cases e : c = i
        · rw [e, st_eq]
          exact if_pos hj
        · rw [st_ne _ _ (by simp [e])]
          exact hd c (by omega) j hj
  refine y_iconst (v := 0) dX2_startAgain_53 (by decide) ?_
  refine y_istS_n dX2_startAgain_54 rfl (by decide) rfl ?_
  exact loop 4 0 μ4 (by omega) (by omega) zoffK.rf (fun c h => absurd h (by omega))
theorem y_begin (μ : zM) (v20 : (20, 0, 0) ∈ wl) (v21 : (21, 0, 0) ∈ wl) (n : Int32) : yCv wl yX4_begin prog_6_method_5_code 3 (none : Option Jvm.ClassFile.FieldType) 1 [zR (20, 0, 0), zI n] μ (fun μ' => ∃ f, μ' = st μ (21, 0, 0) f ∧ ∀ k, k < 2386 → f k = beg n k) := by
  refine yCt.of "DyeTankModel" rfl (by decide +kernel) rfl (Nat.le_of_ble_eq_true rfl) (fun K hR => ?_)
  have loop : ∀ (f i : Nat), i ≤ 2386 → 2386 < i + f → Yz wl K 1 "DyeTankModel" prog_6_method_5_code 3 2 [zR (20, 0, 0), zI n, zI (nI i)] [] (st μ (21, 0, 0) (fun j => if j < i then (fun _ => 0) j else μ (21, 0, 0) j)) := by
    intro f
    induction f with
    | zero => intro i h1 h2; exact absurd ‹_ < _ + 0› (by omega)
    | succ f ih =>
      intro i h1 h2
      refine y_iload_n dX4_begin_2 rfl rfl ?_
      refine y_sipush (v := 2386) dX4_begin_3 (by decide) ?_
      refine y_icmp_ge (tgt := 22) dX4_begin_6 (by decide) (fun hb => ?_) (fun hb => ?_)
      · have hb := nle (a := 2386) hb
        have e : i = 2386 := by omega
        subst e
        refine y_aload_n dX4_begin_22 rfl rfl ?_
        refine yg_X4_at dX4_begin_23 tw_552 ?_
        refine y_iconst (v := 0) dX4_begin_26 (by decide) ?_
        refine y_iload_n dX4_begin_27 rfl rfl ?_
        refine y_iast dX4_begin_28 (fun _ _ => rfl) rfl (i := 0) (by decide) ?_
        refine y_mu (st_upd _ _ _ _ _) ?_
        refine y_aload_n dX4_begin_29 rfl rfl ?_
        refine yg_X4_at dX4_begin_30 tw_552 ?_
        refine y_iconst (v := 2) dX4_begin_33 (by decide) ?_
        refine y_bipush (v := 20) dX4_begin_34 (by decide) ?_
        refine y_iast dX4_begin_36 (fun _ _ => rfl) rfl (i := 2) (by decide) ?_
        refine y_mu (st_upd _ _ _ _ _) ?_
        refine y_aload_n dX4_begin_37 rfl rfl ?_
        refine yg_X4_at dX4_begin_38 tw_552 ?_
        refine y_iconst (v := 3) dX4_begin_41 (by decide) ?_
        refine y_bipush (v := 10) dX4_begin_42 (by decide) ?_
        refine y_iast dX4_begin_44 (fun _ _ => rfl) rfl (i := 3) (by decide) ?_
        refine y_mu (st_upd _ _ _ _ _) ?_
        refine y_aload_n dX4_begin_45 rfl rfl ?_
        refine yg_X4_at dX4_begin_46 tw_552 ?_
        refine y_iconst (v := 5) dX4_begin_49 (by decide) ?_
        refine y_iconst (v := 5) dX4_begin_50 (by decide) ?_
        refine y_iast dX4_begin_51 (fun _ _ => rfl) rfl (i := 5) (by decide) ?_
        refine y_mu (st_upd _ _ _ _ _) ?_
        refine y_aload_n dX4_begin_52 rfl rfl ?_
        refine yg_X4_at dX4_begin_53 tw_552 ?_
        refine y_bipush (v := 7) dX4_begin_56 (by decide) ?_
        refine y_bipush (v := 50) dX4_begin_58 (by decide) ?_
        refine y_iast dX4_begin_60 (fun _ _ => rfl) rfl (i := 7) (by decide) ?_
        refine y_mu (st_upd _ _ _ _ _) ?_
        refine y_aload_n dX4_begin_61 rfl rfl ?_
        refine yg_X4_at dX4_begin_62 tw_552 ?_
        refine y_bipush (v := 8) dX4_begin_65 (by decide) ?_
        refine y_bipush (v := 20) dX4_begin_67 (by decide) ?_
        refine y_iast dX4_begin_69 (fun _ _ => rfl) rfl (i := 8) (by decide) ?_
        refine y_mu (st_upd _ _ _ _ _) ?_
        refine y_vret hR dX4_begin_70 (⟨rfl, _, rfl, ?_⟩)
        intro k hk
        unfold upd beg
        by_cases h8 : k = 8
        · subst h8; rfl
        · rw [if_neg h8]
          by_cases h7 : k = 7
          · subst h7; rfl
          · rw [if_neg h7]
            by_cases h5 : k = 5
            · subst h5; rfl
            · rw [if_neg h5]
              by_cases h3 : k = 3
              · subst h3; rfl
              · rw [if_neg h3]
                by_cases h2 : k = 2
                · subst h2; rfl
                · rw [if_neg h2]
                  by_cases h0 : k = 0
                  · subst h0; rfl
                  · rw [if_neg h0, if_neg h0, if_neg h2, if_neg h3, if_neg h5, if_neg h7, if_neg h8]
                    exact if_pos hk
      · have hb := nnle (a := 2386) hb
        refine y_aload_n dX4_begin_9 rfl rfl ?_
        refine yg_X4_at dX4_begin_10 tw_552 ?_
        refine y_iload_n dX4_begin_13 rfl rfl ?_
        refine y_iconst (v := 0) dX4_begin_14 (by decide) ?_
        refine y_iast dX4_begin_15 (fun _ _ => rfl) rfl hb ?_
        refine y_incS dX4_begin_16 rfl (inc1 _) (by decide) rfl ?_
        refine y_goto (tgt := 2) dX4_begin_19 (by decide) ?_
        refine y_mu ?_ (ih (i + 1) (by omega) (by omega))
        rw [st_upd]
        congr 1
        exact pre_upd (f := fun _ => 0) rfl
  refine y_ls (ls' := [zR (20, 0, 0), zI n, zN]) rfl ?_
  refine y_iconst (v := 0) dX4_begin_0 (by decide) ?_
  refine y_istS_n dX4_begin_1 rfl (by decide) rfl ?_
  refine y_mu ?_ (loop 2387 0 (by omega) (by omega))
  rw [pre_0 (f := fun _ => 0), st_self]
end YROWS
