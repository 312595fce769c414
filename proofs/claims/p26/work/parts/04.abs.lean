/-! the abstract store: every cell of the world has an id (kind, tank, number); ints alone change; references are fixed by the ids -/
abbrev zA : Type := Nat × Nat × Nat
abbrev zM : Type := zA → Nat → Int32
abbrev zV : Type := Option ((Int32 ⊕ Int64) ⊕ zA)
def zI (x : Int32) : zV := some (.inl (.inl x))
def zL (x : Int64) : zV := some (.inl (.inr x))
def zR (a : zA) : zV := some (.inr a)
def zN : zV := none
def zc (ad : zA → Nat) : zV → Value
  | none => .null
  | some (.inl (.inl x)) => .int x
  | some (.inl (.inr x)) => .long x
  | some (.inr a) => .ref (ad a)
abbrev zG : Type := (zA → Nat) × va_G × (Nat → ClassId)
def zcells : List zA := [(0, 0, 0), (1, 0, 0), (2, 0, 0), (3, 0, 0), (4, 0, 0)] ++ ((List.range 4).flatMap (fun t => [(5, t, 0), (6, t, 0), (7, t, 0), (8, t, 0), (9, t, 0), (10, t, 0), (11, t, 0), (11, t, 1), (11, t, 2), (12, t, 0)] ++ ((List.range 6).flatMap (fun i => [(13, t, i), (14, t, i), (15, t, i)])) ++ [(16, t, 0), (17, t, 0), (18, t, 0)]))
theorem zcells_nd : zcells.Nodup := by decide +kernel
def zarI (G : zG) (n : Nat) (f : Nat → Int32) : va_E := .inl (G.2.2 0, n, .inl f)
def zarR (c n : Nat) (G : zG) (f : Nat → zA) : va_E := .inl (G.2.2 c, n, .inr (.inr (.inr (.inr (fun j => some (G.1 (f j)))))))
/-- what a cell holds: objects by class, arrays by length -/
def zent (G : zG) (a : zA) (f : Nat → Int32) : va_E := match a with
  | (0, _, _) => .inr (3, [.ref (G.1 (5, 0, 0)), .ref (G.1 (5, 1, 0)), .ref (G.1 (1, 0, 0)), .ref (G.1 (2, 0, 0)), .ref (G.1 (3, 0, 0))])
  | (1, _, _) => zarR 3 2 G (fun j => (5, 2 + j, 0))
  | (2, _, _) => .inl (G.2.2 1, 2, .inl f)
  | (3, _, _) => .inr (1, [.int (f 0), .int (f 1), .int (f 2), .int (f 3), .int (f 4), .int (f 5), .int (f 6), .int (f 7), .ref (G.1 (4, 0, 0))])
  | (4, _, _) => .inl (G.2.2 2, 60, .inl f)
  | (5, t, _) => .inr (2, [.int (f 0), .int (f 1), .int (f 2), .ref (G.1 (6, t, 0)), .ref (G.1 (7, t, 0)), .ref (G.1 (8, t, 0)), .ref (G.1 (9, t, 0)), .ref (G.1 (10, t, 0)), .ref (G.1 (12, t, 0)), .ref (G.1 (16, t, 0)), .ref (G.1 (17, t, 0)), .ref (G.1 (18, t, 0))])
  | (6, _, _) => zarI G 7 f
  | (7, _, _) => zarI G 12 f
  | (8, _, _) => zarI G 12 f
  | (9, _, _) => zarI G 3 f
  | (10, t, _) => zarR 5 3 G (fun j => (11, t, j))
  | (11, _, _) => zarI G 576 f
  | (12, t, _) => zarR 4 6 G (fun j => (13, t, j))
  | (13, t, i) => .inr (0, [.int (f 0), .int (f 1), .int (f 2), .int (f 3), .int (f 4), .ref (G.1 (14, t, i)), .ref (G.1 (15, t, i))])
  | (14, _, _) => zarI G 50 f
  | (15, _, _) => zarI G 50 f
  | (16, _, _) => zarI G 12 f
  | (17, _, _) => zarI G 12 f
  | (18, _, _) => zarI G 576 f
  | (20, _, _) => .inr (4, [.ref (G.1 (21, 0, 0)), .ref (G.1 (22, 0, 0)), .ref (G.1 (23, 0, 0)), .ref (G.1 (24, 0, 0)), .ref (G.1 (25, 0, 0)), .ref (G.1 (26, 0, 0)), .ref (G.1 (27, 0, 0)), .int (f 7), .int (f 8), .int (f 9), .ref (G.1 (28, 0, 0)), .int (f 11)])
  | (21, _, _) => zarI G 2386 f
  | (22, _, _) => zarI G 2386 f
  | (23, _, _) => zarI G 4772 f
  | (24, _, _) => .inl (G.2.2 1, 2, .inl f)
  | (25, _, _) => zarI G 1728 f
  | (26, _, _) => zarI G 12 f
  | (27, _, _) => zarI G 60 f
  | _ => zarI G 192 f
def zty (G : zG) : List (ClassId × FieldType) := [(G.2.2 0, .int), (G.2.2 1, .boolean), (G.2.2 2, .char), (G.2.2 3, .object "DyeTank$Tank"), (G.2.2 4, .object "DyeTank$Marker"), (G.2.2 5, .array .int)]
def zws (G : zG) (μ : zM) : va_W := zcells.map (fun a => (G.1 a, zent G a (μ a)))
def zP (G : zG) (μ : zM) (H : Heap) : Prop := va_P G.2.1 vwCl (zws G μ) H
def zInj (G : zG) : Prop := ∀ a ∈ zcells, ∀ b ∈ zcells, G.1 a = G.1 b → a = b
def zfree (G : zG) : Nat → Prop := fun q => ∃ a ∈ zcells, q = G.1 a
/-- a row of the store replaced -/
def st (μ : zM) (a : zA) (f : Nat → Int32) : zM := fun b => if b = a then f else μ b
theorem st_eq (μ : zM) (a : zA) (f : Nat → Int32) : st μ a f a = f := if_pos rfl
theorem st_ne (μ : zM) {a b : zA} (f : Nat → Int32) (h : b ≠ a) : st μ a f b = μ b := if_neg h
theorem zws_get {G : zG} {μ : zM} {k : Nat} {a : zA} (h : zcells[k]? = some a) : (zws G μ)[k]? = some (G.1 a, zent G a (μ a)) := by
  show (zcells.map _)[k]? = _
  rw [List.getElem?_map, h]
  rfl
theorem z_at {G : zG} {a : zA} (μ : zM) (h : a ∈ zcells) : ∃ k : Nat, zcells[k]? = some a ∧ (zws G μ)[k]? = some (G.1 a, zent G a (μ a)) := by
  obtain ⟨k, hk⟩ := List.getElem?_of_mem h
  exact ⟨k, hk, zws_get hk⟩
theorem z_set {G : zG} {μ : zM} {k : Nat} {a : zA} {f : Nat → Int32} (h : zcells[k]? = some a) : (zws G μ).set k (G.1 a, zent G a f) = zws G (st μ a f) := by
  have hl : k < zcells.length := (List.getElem?_eq_some_iff.mp h).1
  apply List.ext_getElem?
  intro j
  show ((zcells.map _).set k _)[j]? = (zcells.map _)[j]?
  by_cases hj : k = j
  · subst hj
    rw [List.getElem?_set_self (by rw [List.length_map]; exact hl), List.getElem?_map, h]
    show _ = some (G.1 a, zent G a (st μ a f a))
    rw [st_eq]
  · rw [List.getElem?_set_ne hj, List.getElem?_map, List.getElem?_map]
    cases hb : zcells[j]? with
    | none => rfl
    | some b =>
      have hne : b ≠ a := by
        intro e
        subst e
        have h1 := ((List.getElem?_inj hl zcells_nd).mp (h.trans hb.symm))
        exact hj h1
      show some (G.1 b, zent G b (μ b)) = some (G.1 b, zent G b (st μ a f b))
      rw [st_ne μ f hne]
theorem z_D {G : zG} {μ : zM} {A : Nat → Prop} (hi : zInj G) (hA : ∀ a ∈ zcells, A (G.1 a)) : va_D A (zws G μ) := by
  have key : ∀ (k : Nat) (q : Nat × va_E), (zws G μ)[k]? = some q → ∃ a, zcells[k]? = some a ∧ q.1 = G.1 a := by
    intro k q hq
    have h1 : (zcells.map (fun a => (G.1 a, zent G a (μ a))))[k]? = some q := hq
    rw [List.getElem?_map] at h1
    cases hb : zcells[k]? with
    | none => rw [hb] at h1; cases h1
    | some b =>
      rw [hb] at h1
      cases h1
      exact ⟨b, rfl, rfl⟩
  refine ⟨fun i j x y hx hy hxy => ?_, fun k q hq => ?_⟩
  · obtain ⟨a, ha, ea⟩ := key i x hx
    obtain ⟨b, hb, eb⟩ := key j y hy
    have hab : a = b := hi a (List.mem_of_getElem? ha) b (List.mem_of_getElem? hb) (by rw [← ea, ← eb]; exact hxy)
    subst hab
    exact (List.getElem?_inj (List.getElem?_eq_some_iff.mp ha).1 zcells_nd).mp (ha.trans hb.symm)
  · obtain ⟨a, ha, ea⟩ := key k q hq
    rw [ea]
    exact hA a (List.mem_of_getElem? ha)
/-! the static tables -/
def ztab : Nat → List Int32
  | 40 => [20, 10, 0, 5, 0, 50, 20]
  | 41 => [0, 0, -1500, 0, -1500, 0, 0]
  | _ => [100, 100, 1500, 100, 1500, 200, 500]
def znm : Nat → String
  | 40 => "FIRST_SETTING"
  | 41 => "LEAST_SETTING"
  | _ => "GREATEST_SETTING"
def zSt (G : zG) (A : Nat → Prop) (U : State) (H : Heap) : Prop := ∀ k : Nat, (k = 40 ∨ k = 41 ∨ k = 42) → va_Z "DyeTank" (znm k) "[I" (.ref (G.1 (k, 0, 0))) A U H ∧ va_T .int (G.1 (k, 0, 0)) 7 (fun j => .int ((ztab k).getD j 0)) A U H
theorem zSt.moved {G : zG} {A : Nat → Prop} {u U : State} {H : Heap} (hvm : u.vm.Alike U.vm) (h : zSt G A u H) : zSt G A U H := fun k hk => ⟨va_Z.moved hvm (h k hk).1, va_T.moved hvm (h k hk).2⟩
theorem zSt.kept {G : zG} {A : Nat → Prop} {U : State} {H H1 : Heap} (h : zSt G A U H) (hq : ∀ a : Nat, a < H.size → ¬ A a → H1[a]? = H[a]?) : zSt G A U H1 := fun k hk => ⟨va_Z.kept (h k hk).1 hq, va_T.kept (h k hk).2 hq⟩
theorem zSt.narrow {G : zG} {A B : Nat → Prop} {U : State} {H : Heap} (h : zSt G A U H) (hAB : ∀ q, B q → A q) : zSt G B U H := fun k hk => ⟨va_Z.narrow (h k hk).1 hAB, va_T.narrow (h k hk).2 hAB⟩
def zNst (U : State) : Prop := va_Nw (.fieldLinkNest "DyeTank$Tank" 59 "DyeTank" "FIRST_SETTING" "[I" "DyeTank") U
/-! contracts -/
def zrm (d : Nat) : Room := { frames := d, cells := 0, slots := 0, locals := 40 * d }
def zPre (G : zG) (μ : zM) (U : State) : Prop := va_K G.2.1 vwCl (zty G) U ∧ zInj G ∧ zP G μ U.heap ∧ zSt G (zfree G) U U.heap ∧ zNst U
def zret (G : zG) : zV → Option Value
  | none => none
  | some x => some (zc G.1 (some x))
def zQ (G : zG) (Po : zM → zV → Prop) : Array Value → State → Outcome → State → Prop := fun _ u oc t => ∃ (μ' : zM) (r : zV), oc = .returned (zret G r) ∧ Po μ' r ∧ zP G μ' t.heap ∧ va_F (zfree G) u t
def zCt (y : MethodName) (cc : ByteArray) (nL : Nat) (ret : Option FieldType) (d : Nat) (av : List zV) (μ : zM) (Po : zM → zV → Prop) : Prop :=
  ∀ (l : Launch) (G : zG), Met l y (.code y cc nL ret :: zT) (zrm d) (va_Pc (av.map (zc G.1)) (zPre G μ)) (zQ G Po) 0 0 (zfree G)
/-! locals -/
def zl (G : zG) : Nat → List zV → List (Nat × Value)
  | _, [] => []
  | k, none :: t => zl G (k + 1) t
  | k, some x :: t => (k, zc G.1 (some x)) :: zl G (k + 1) t
theorem zl_mem {G : zG} {q : Nat × Value} : ∀ (ls : List zV) (k : Nat), q ∈ zl G k ls ↔ ∃ (j : Nat) (x : (Int32 ⊕ Int64) ⊕ zA), ls[j]? = some (some x) ∧ q = (k + j, zc G.1 (some x))
  | [], k => by simp [zl]
  | none :: t, k => by
    rw [zl, zl_mem t (k + 1)]
    constructor
    · rintro ⟨j, x, h1, h2⟩
      exact ⟨j + 1, x, by simpa using h1, by rw [h2]; congr 1; omega⟩
    · rintro ⟨j, x, h1, h2⟩
      cases j with
      | zero => simp at h1
      | succ j => exact ⟨j, x, by simpa using h1, by rw [h2]; congr 1; omega⟩
  | some y :: t, k => by
    rw [zl, List.mem_cons, zl_mem t (k + 1)]
    constructor
    · rintro (h | ⟨j, x, h1, h2⟩)
      · exact ⟨0, y, rfl, by rw [h]; rfl⟩
      · exact ⟨j + 1, x, by simpa using h1, by rw [h2]; congr 1; omega⟩
    · rintro ⟨j, x, h1, h2⟩
      cases j with
      | zero =>
        have : y = x := by simpa using h1
        subst this
        exact Or.inl h2
      | succ j => exact Or.inr ⟨j, x, by simpa using h1, by rw [h2]; congr 1; omega⟩
def zcut : zV → zV
  | some (.inl (.inr _)) => none
  | w => w
def zset : List zV → Nat → zV → List zV
  | [], _, _ => []
  | _ :: t, 0, v => v :: t
  | a :: t, 1, v => zcut a :: zset t 0 v
  | a :: t, n + 2, v => a :: zset t (n + 1) v
theorem zset_get (v : zV) : ∀ (ls : List zV) (i j : Nat), (zset ls i v)[j]? = if j = i then (if i < ls.length then some v else none) else if j + 1 = i then ls[j]?.map zcut else ls[j]?
  | [], i, j => by
    simp [zset]
  | a :: t, 0, j => by
    cases j with
    | zero => simp [zset]
    | succ j => simp [zset]
  | a :: t, 1, j => by
    cases j with
    | zero => simp [zset]
    | succ j =>
      rw [zset, List.getElem?_cons_succ, zset_get v t 0 j]
      simp
  | a :: t, n + 2, j => by
    cases j with
    | zero => simp [zset]
    | succ j =>
      rw [zset, List.getElem?_cons_succ, zset_get v t (n + 1) j]
      simp
      simp only [show (n + 2 < t.length + 1) ↔ (n + 1 < t.length) by omega]
def zcat : zV → Nat
  | some (.inl (.inr _)) => 2
  | _ => 1
theorem zcat_eq (ad : zA → Nat) (v : zV) : (zc ad v).category = zcat v := by
  rcases v with _ | ((x | x) | x) <;> rfl
def zsum : List zV → Nat
  | [] => 0
  | a :: t => zcat a + zsum t
theorem zsum_eq (ad : zA → Nat) : ∀ st : List zV, ((st.map (zc ad)).map fun v => v.category).sum = zsum st
  | [] => rfl
  | a :: t => by
    rw [List.map_cons, List.map_cons, List.sum_cons, zsum_eq ad t, zcat_eq]
    rfl
theorem zcut_some {w : zV} {x : (Int32 ⊕ Int64) ⊕ zA} (h : zcut w = some x) : w = some x ∧ zcat w = 1 := by
  rcases w with _ | ((y | y) | y)
  · cases h
  · exact ⟨h, rfl⟩
  · cases h
  · exact ⟨h, rfl⟩
theorem lv_less {la : Array Slot} {nL : Nat} {l l' : List (Nat × Value)} (h : lv_has la nL l) (hl : ∀ q ∈ l', q ∈ l) : lv_has la nL l' := ⟨h.1, h.2.1, fun q hq => h.2.2 q (hl q hq)⟩
theorem zl_set1 {G : zG} {la : Array Slot} {nL i : Nat} {ls : List zV} {v : zV} (h : lv_has la nL ((i, zc G.1 v) :: (zl G 0 ls).filter (fun q => !(q.1 == i) && !(q.1 + 1 == i && q.2.category == 2)))) : lv_has la nL (zl G 0 (zset ls i v)) := by
  refine lv_less h fun q hq => ?_
  obtain ⟨j, x, h1, h2⟩ := (zl_mem _ _).mp hq
  rw [zset_get] at h1
  by_cases hj : j = i
  · rw [if_pos hj] at h1
    by_cases hi : i < ls.length
    · rw [if_pos hi] at h1
      rw [h2, ← Option.some.inj h1, hj, Nat.zero_add]
      exact List.mem_cons_self
    · rw [if_neg hi] at h1
      cases h1
  · rw [if_neg hj] at h1
    refine List.mem_cons_of_mem _ (List.mem_filter.mpr ?_)
    by_cases hj1 : j + 1 = i
    · rw [if_pos hj1] at h1
      cases hw : ls[j]? with
      | none => rw [hw] at h1; cases h1
      | some w =>
        rw [hw] at h1
        obtain ⟨e1, e2⟩ := zcut_some (Option.some.inj h1)
        refine ⟨(zl_mem _ _).mpr ⟨j, x, by rw [hw, e1], h2⟩, ?_⟩
        rw [h2]
        have e3 : (zc G.1 (some x)).category = 1 := by rw [zcat_eq, ← e1]; exact e2
        simp [hj, e3]
    · rw [if_neg hj1] at h1
      refine ⟨(zl_mem _ _).mpr ⟨j, x, h1, h2⟩, ?_⟩
      rw [h2]
      simp [hj, hj1]
theorem zl_set2 {G : zG} {la : Array Slot} {nL i : Nat} {ls : List zV} {v : zV} (h : lv_has la nL ((i, zc G.1 v) :: (zl G 0 ls).filter (fun q => !(q.1 == i) && (!(q.1 == i + 1) && !(q.1 + 1 == i && q.2.category == 2))))) : lv_has la nL (zl G 0 ((zset ls i v).set (i + 1) none)) := by
  refine lv_less h fun q hq => ?_
  obtain ⟨j, x, h1, h2⟩ := (zl_mem _ _).mp hq
  by_cases hi1 : i + 1 = j
  · subst hi1
    rw [List.getElem?_set] at h1
    simp at h1
  rw [List.getElem?_set_ne hi1, zset_get] at h1
  by_cases hj : j = i
  · rw [if_pos hj] at h1
    by_cases hi : i < ls.length
    · rw [if_pos hi] at h1
      rw [h2, ← Option.some.inj h1, hj, Nat.zero_add]
      exact List.mem_cons_self
    · rw [if_neg hi] at h1
      cases h1
  · rw [if_neg hj] at h1
    refine List.mem_cons_of_mem _ (List.mem_filter.mpr ?_)
    by_cases hj1 : j + 1 = i
    · rw [if_pos hj1] at h1
      cases hw : ls[j]? with
      | none => rw [hw] at h1; cases h1
      | some w =>
        rw [hw] at h1
        obtain ⟨e1, e2⟩ := zcut_some (Option.some.inj h1)
        refine ⟨(zl_mem _ _).mpr ⟨j, x, by rw [hw, e1], h2⟩, ?_⟩
        rw [h2]
        have e3 : (zc G.1 (some x)).category = 1 := by rw [zcat_eq, ← e1]; exact e2
        simp [hj, e3]
        omega
    · rw [if_neg hj1] at h1
      refine ⟨(zl_mem _ _).mpr ⟨j, x, h1, h2⟩, ?_⟩
      rw [h2]
      simp [hj, hj1]
      omega
theorem zl_at {G : zG} {la : Array Slot} {nL i : Nat} {ls : List zV} {x : (Int32 ⊕ Int64) ⊕ zA} (h : lv_has la nL (zl G 0 ls)) (hi : ls[i]? = some (some x)) : la[i]? = some (.val (zc G.1 (some x))) := by
  have := h.2.2 (0 + i, zc G.1 (some x)) ((zl_mem _ _).mpr ⟨i, x, hi, rfl⟩)
  rwa [Nat.zero_add] at this
/-! the judgement -/
abbrev zK : Type := zG × Program × Launch × Env × Room × State × MethodId × Array Value × List Frame × Method × Code × (Nat → Prop) × (State → Prop) × Nat × Nat
def zF (K : zK) (d : Nat) (own : String) (cc : ByteArray) (nL : Nat) : Prop := match K with
  | (G, p, _, _, R, s, m, args, _, _, c, A, _, ce, sl) => p.tables.exec = Jvm.exec ∧ c.code = cc ∧ c.maxLocals = nL ∧ s.vm.findClass own = some m.cls ∧ (∀ w ∈ zT, w.before args s = true) ∧ va_K G.2.1 vwCl (zty G) s ∧ zInj G ∧ (∀ a ∈ zcells, A (G.1 a)) ∧ zSt G A s s.heap ∧ zNst s ∧ (ce ≤ R.cells ∧ sl ≤ R.slots) ∧ (d ≤ R.frames ∧ 40 * d ≤ R.locals)
def Z (K : zK) (d : Nat) (own : String) (cc : ByteArray) (nL : Nat) (pc : Nat) (ls sk : List zV) (μ : zM) : Prop := match K with
  | (G, p, l, e, R, s, m, args, below, meth, c, A, Q, ce, sl) => zF (G, p, l, e, R, s, m, args, below, meth, c, A, Q, ce, sl) d own cc nL → ∀ (H : Heap) (locs : List Loc) (la : Array Slot), zP G μ H → va_S A s.heap H locs → lv_has la nL (zl G 0 ls) → W p l e R s m args below meth c H locs ce sl Q (F0 m pc la (sk.map (zc G.1)))
def zRet (K : zK) (Po : zM → zV → Prop) (ret : Option FieldType) : Prop := match K with
  | (G, _, _, _, _, s, _, args, below, meth, _, A, Q, ce, sl) => Q = MQ below (zQ G Po) args s ce sl A ∧ A = zfree G ∧ meth.sig.returnType = ret ∧ meth.locks = false
section ZROWS
variable {K : zK} {d nL pc : Nat} {own : String} {cc : ByteArray} {ls sk : List zV} {μ : zM}
theorem z_iconst {n : Int} {v : Int32} (dg : decode cc pc = .ok (.iconst n, 1)) (hv : Int32.ofInt n = v) (k : Z K d own cc nL (pc + 1) ls (zI v :: sk) μ) : Z K d own cc nL pc ls sk μ := by
  obtain ⟨G, p, l, e, R, s, m, args, below, meth, c, A, Q, ce, sl⟩ := K
  intro F H locs la hP hS hl
  exact lv_iconst F.1 F.2.1 dg hv (k F H locs la hP hS hl)
theorem z_bipush {n : Int} {v : Int32} (dg : decode cc pc = .ok (.bipush n, 2)) (hv : (Int8.ofInt n).toInt32 = v) (k : Z K d own cc nL (pc + 2) ls (zI v :: sk) μ) : Z K d own cc nL pc ls sk μ := by
  obtain ⟨G, p, l, e, R, s, m, args, below, meth, c, A, Q, ce, sl⟩ := K
  intro F H locs la hP hS hl
  exact lv_bipush F.1 F.2.1 dg hv (k F H locs la hP hS hl)
theorem z_sipush {n : Int} {v : Int32} (dg : decode cc pc = .ok (.sipush n, 3)) (hv : (Int16.ofInt n).toInt32 = v) (k : Z K d own cc nL (pc + 3) ls (zI v :: sk) μ) : Z K d own cc nL pc ls sk μ := by
  obtain ⟨G, p, l, e, R, s, m, args, below, meth, c, A, Q, ce, sl⟩ := K
  intro F H locs la hP hS hl
  exact lv_sipush F.1 F.2.1 dg hv (k F H locs la hP hS hl)
theorem z_lconst {n : Fin 2} {v : Int64} (dg : decode cc pc = .ok (.lconst n, 1)) (hv : Int64.ofNat (n : Nat) = v) (k : Z K d own cc nL (pc + 1) ls (zL v :: sk) μ) : Z K d own cc nL pc ls sk μ := by
  obtain ⟨G, p, l, e, R, s, m, args, below, meth, c, A, Q, ce, sl⟩ := K
  intro F H locs la hP hS hl
  exact lv_lconst F.1 F.2.1 dg hv (k F H locs la hP hS hl)
theorem z_ldc {index : Nat} {v : Int32} (dg : decode cc pc = .ok (.ldc index, 2)) (hc : Cond.constant own index v ∈ zT) (k : Z K d own cc nL (pc + 2) ls (zI v :: sk) μ) : Z K d own cc nL pc ls sk μ := by
  obtain ⟨G, p, l, e, R, s, m, args, below, meth, c, A, Q, ce, sl⟩ := K
  intro F H locs la hP hS hl
  exact lv_ldc F.1 F.2.1 F.2.2.2.1 (F.2.2.2.2.1 _ hc) dg (k F H locs la hP hS hl)
theorem z_ldc2 {index : Nat} {v : Int64} (dg : decode cc pc = .ok (.ldc2_w index, 3)) (hc : Cond.constantLong own index v ∈ zT) (k : Z K d own cc nL (pc + 3) ls (zL v :: sk) μ) : Z K d own cc nL pc ls sk μ := by
  obtain ⟨G, p, l, e, R, s, m, args, below, meth, c, A, Q, ce, sl⟩ := K
  intro F H locs la hP hS hl
  exact lv_ldc2 F.1 F.2.1 F.2.2.2.1 (F.2.2.2.2.1 _ hc) dg (k F H locs la hP hS hl)
theorem z_iload_n {k : Fin 4} {i : Nat} {x : Int32} (dg : decode cc pc = .ok (.iload_n k, 1)) (hi : (k : Nat) = i) (hv : ls[i]? = some (zI x)) (k1 : Z K d own cc nL (pc + 1) ls (zI x :: sk) μ) : Z K d own cc nL pc ls sk μ := by
  obtain ⟨G, p, l, e, R, s, m, args, below, meth, c, A, Q, ce, sl⟩ := K
  intro F H locs la hP hS hl
  exact lv_iload_n F.1 F.2.1 dg hi (zl_at hl hv) (k1 F H locs la hP hS hl)
theorem z_iload {i : Nat} {x : Int32} (dg : decode cc pc = .ok (.iload i, 2)) (hv : ls[i]? = some (zI x)) (k : Z K d own cc nL (pc + 2) ls (zI x :: sk) μ) : Z K d own cc nL pc ls sk μ := by
  obtain ⟨G, p, l, e, R, s, m, args, below, meth, c, A, Q, ce, sl⟩ := K
  intro F H locs la hP hS hl
  exact lv_iload F.1 F.2.1 dg (zl_at hl hv) (k F H locs la hP hS hl)
theorem z_lload_n {k : Fin 4} {i : Nat} {x : Int64} (dg : decode cc pc = .ok (.lload_n k, 1)) (hi : (k : Nat) = i) (hv : ls[i]? = some (zL x)) (k1 : Z K d own cc nL (pc + 1) ls (zL x :: sk) μ) : Z K d own cc nL pc ls sk μ := by
  obtain ⟨G, p, l, e, R, s, m, args, below, meth, c, A, Q, ce, sl⟩ := K
  intro F H locs la hP hS hl
  exact lv_lload_n F.1 F.2.1 dg hi (zl_at hl hv) (k1 F H locs la hP hS hl)
theorem z_lload {i : Nat} {x : Int64} (dg : decode cc pc = .ok (.lload i, 2)) (hv : ls[i]? = some (zL x)) (k : Z K d own cc nL (pc + 2) ls (zL x :: sk) μ) : Z K d own cc nL pc ls sk μ := by
  obtain ⟨G, p, l, e, R, s, m, args, below, meth, c, A, Q, ce, sl⟩ := K
  intro F H locs la hP hS hl
  exact lv_lload F.1 F.2.1 dg (zl_at hl hv) (k F H locs la hP hS hl)
theorem z_aload_n {k : Fin 4} {i : Nat} {x : zA} (dg : decode cc pc = .ok (.aload_n k, 1)) (hi : (k : Nat) = i) (hv : ls[i]? = some (zR x)) (k1 : Z K d own cc nL (pc + 1) ls (zR x :: sk) μ) : Z K d own cc nL pc ls sk μ := by
  obtain ⟨G, p, l, e, R, s, m, args, below, meth, c, A, Q, ce, sl⟩ := K
  intro F H locs la hP hS hl
  exact lv_aload_n F.1 F.2.1 dg hi (zl_at hl hv) (k1 F H locs la hP hS hl)
theorem z_aload {i : Nat} {x : zA} (dg : decode cc pc = .ok (.aload i, 2)) (hv : ls[i]? = some (zR x)) (k : Z K d own cc nL (pc + 2) ls (zR x :: sk) μ) : Z K d own cc nL pc ls sk μ := by
  obtain ⟨G, p, l, e, R, s, m, args, below, meth, c, A, Q, ce, sl⟩ := K
  intro F H locs la hP hS hl
  exact lv_aload F.1 F.2.1 dg (zl_at hl hv) (k F H locs la hP hS hl)
theorem z_istore_n {k : Fin 4} {i : Nat} {x : Int32} (dg : decode cc pc = .ok (.istore_n k, 1)) (hi : (k : Nat) = i) (hn : i < nL) (k1 : Z K d own cc nL (pc + 1) (zset ls i (zI x)) sk μ) : Z K d own cc nL pc ls (zI x :: sk) μ := by
  obtain ⟨G, p, l, e, R, s, m, args, below, meth, c, A, Q, ce, sl⟩ := K
  intro F H locs la hP hS hl
  exact lv_istore_n F.1 F.2.1 dg hi hl hn rfl fun la' hl' => k1 F H locs la' hP hS (zl_set1 (v := zI x) hl')
theorem z_istore {i : Nat} {x : Int32} (dg : decode cc pc = .ok (.istore i, 2)) (hn : i < nL) (k : Z K d own cc nL (pc + 2) (zset ls i (zI x)) sk μ) : Z K d own cc nL pc ls (zI x :: sk) μ := by
  obtain ⟨G, p, l, e, R, s, m, args, below, meth, c, A, Q, ce, sl⟩ := K
  intro F H locs la hP hS hl
  exact lv_istore F.1 F.2.1 dg hl hn rfl fun la' hl' => k F H locs la' hP hS (zl_set1 (v := zI x) hl')
theorem z_lstore_n {k : Fin 4} {i : Nat} {x : Int64} (dg : decode cc pc = .ok (.lstore_n k, 1)) (hi : (k : Nat) = i) (hn : i + 1 < nL) (k1 : Z K d own cc nL (pc + 1) ((zset ls i (zL x)).set (i + 1) none) sk μ) : Z K d own cc nL pc ls (zL x :: sk) μ := by
  obtain ⟨G, p, l, e, R, s, m, args, below, meth, c, A, Q, ce, sl⟩ := K
  intro F H locs la hP hS hl
  exact lv_lstore_n F.1 F.2.1 dg hi hl hn rfl fun la' hl' => k1 F H locs la' hP hS (zl_set2 (v := zL x) hl')
theorem z_lstore {i : Nat} {x : Int64} (dg : decode cc pc = .ok (.lstore i, 2)) (hn : i + 1 < nL) (k : Z K d own cc nL (pc + 2) ((zset ls i (zL x)).set (i + 1) none) sk μ) : Z K d own cc nL pc ls (zL x :: sk) μ := by
  obtain ⟨G, p, l, e, R, s, m, args, below, meth, c, A, Q, ce, sl⟩ := K
  intro F H locs la hP hS hl
  exact lv_lstore F.1 F.2.1 dg hl hn rfl fun la' hl' => k F H locs la' hP hS (zl_set2 (v := zL x) hl')
theorem z_astore_n {k : Fin 4} {i : Nat} {x : zA} (dg : decode cc pc = .ok (.astore_n k, 1)) (hi : (k : Nat) = i) (hn : i < nL) (k1 : Z K d own cc nL (pc + 1) (zset ls i (zR x)) sk μ) : Z K d own cc nL pc ls (zR x :: sk) μ := by
  obtain ⟨G, p, l, e, R, s, m, args, below, meth, c, A, Q, ce, sl⟩ := K
  intro F H locs la hP hS hl
  exact lv_astore_n F.1 F.2.1 dg hi hl hn rfl fun la' hl' => k1 F H locs la' hP hS (zl_set1 (v := zR x) hl')
theorem z_astore {i : Nat} {x : zA} (dg : decode cc pc = .ok (.astore i, 2)) (hn : i < nL) (k : Z K d own cc nL (pc + 2) (zset ls i (zR x)) sk μ) : Z K d own cc nL pc ls (zR x :: sk) μ := by
  obtain ⟨G, p, l, e, R, s, m, args, below, meth, c, A, Q, ce, sl⟩ := K
  intro F H locs la hP hS hl
  exact lv_astore F.1 F.2.1 dg hl hn rfl fun la' hl' => k F H locs la' hP hS (zl_set1 (v := zR x) hl')
theorem z_iinc {i : Nat} {n : Int} {x v : Int32} (dg : decode cc pc = .ok (.iinc i n, 3)) (hx : ls[i]? = some (zI x)) (hv : x + Int32.ofInt n = v) (hn : i < nL) (k : Z K d own cc nL (pc + 3) (zset ls i (zI v)) sk μ) : Z K d own cc nL pc ls sk μ := by
  obtain ⟨G, p, l, e, R, s, m, args, below, meth, c, A, Q, ce, sl⟩ := K
  intro F H locs la hP hS hl
  obtain ⟨k1, hk1⟩ := List.getElem?_of_mem ((zl_mem (G := G) ls 0).mpr ⟨i, _, hx, rfl⟩)
  rw [Nat.zero_add] at hk1
  exact lv_iinc F.1 F.2.1 dg hl hk1 hv hn rfl fun la' hl' => k F H locs la' hP hS (zl_set1 (v := zI v) hl')
theorem z_iadd {x y : Int32} (dg : decode cc pc = .ok (.iadd, 1)) (k : Z K d own cc nL (pc + 1) ls (zI (x + y) :: sk) μ) : Z K d own cc nL pc ls (zI y :: zI x :: sk) μ := by
  obtain ⟨G, p, l, e, R, s, m, args, below, meth, c, A, Q, ce, sl⟩ := K
  intro F H locs la hP hS hl
  exact lv_iadd F.1 F.2.1 dg (k F H locs la hP hS hl)
theorem z_isub {x y : Int32} (dg : decode cc pc = .ok (.isub, 1)) (k : Z K d own cc nL (pc + 1) ls (zI (x - y) :: sk) μ) : Z K d own cc nL pc ls (zI y :: zI x :: sk) μ := by
  obtain ⟨G, p, l, e, R, s, m, args, below, meth, c, A, Q, ce, sl⟩ := K
  intro F H locs la hP hS hl
  exact lv_isub F.1 F.2.1 dg (k F H locs la hP hS hl)
theorem z_imul {x y : Int32} (dg : decode cc pc = .ok (.imul, 1)) (k : Z K d own cc nL (pc + 1) ls (zI (x * y) :: sk) μ) : Z K d own cc nL pc ls (zI y :: zI x :: sk) μ := by
  obtain ⟨G, p, l, e, R, s, m, args, below, meth, c, A, Q, ce, sl⟩ := K
  intro F H locs la hP hS hl
  exact lv_imul F.1 F.2.1 dg (k F H locs la hP hS hl)
theorem z_iand {x y : Int32} (dg : decode cc pc = .ok (.iand, 1)) (k : Z K d own cc nL (pc + 1) ls (zI (x &&& y) :: sk) μ) : Z K d own cc nL pc ls (zI y :: zI x :: sk) μ := by
  obtain ⟨G, p, l, e, R, s, m, args, below, meth, c, A, Q, ce, sl⟩ := K
  intro F H locs la hP hS hl
  exact lv_iand F.1 F.2.1 dg (k F H locs la hP hS hl)
theorem z_ixor {x y : Int32} (dg : decode cc pc = .ok (.ixor, 1)) (k : Z K d own cc nL (pc + 1) ls (zI (x ^^^ y) :: sk) μ) : Z K d own cc nL pc ls (zI y :: zI x :: sk) μ := by
  obtain ⟨G, p, l, e, R, s, m, args, below, meth, c, A, Q, ce, sl⟩ := K
  intro F H locs la hP hS hl
  exact lv_ixor F.1 F.2.1 dg (k F H locs la hP hS hl)
theorem z_idiv {x y : Int32} (dg : decode cc pc = .ok (.idiv, 1)) (hy : ¬ y = 0) (k : Z K d own cc nL (pc + 1) ls (zI (x / y) :: sk) μ) : Z K d own cc nL pc ls (zI y :: zI x :: sk) μ := by
  obtain ⟨G, p, l, e, R, s, m, args, below, meth, c, A, Q, ce, sl⟩ := K
  intro F H locs la hP hS hl
  exact lv_idiv F.1 F.2.1 dg hy (k F H locs la hP hS hl)
theorem z_irem {x y : Int32} (dg : decode cc pc = .ok (.irem, 1)) (hy : ¬ y = 0) (k : Z K d own cc nL (pc + 1) ls (zI (x - x / y * y) :: sk) μ) : Z K d own cc nL pc ls (zI y :: zI x :: sk) μ := by
  obtain ⟨G, p, l, e, R, s, m, args, below, meth, c, A, Q, ce, sl⟩ := K
  intro F H locs la hP hS hl
  exact lv_irem F.1 F.2.1 dg hy (k F H locs la hP hS hl)
theorem z_ineg {x : Int32} (dg : decode cc pc = .ok (.ineg, 1)) (k : Z K d own cc nL (pc + 1) ls (zI (-x) :: sk) μ) : Z K d own cc nL pc ls (zI x :: sk) μ := by
  obtain ⟨G, p, l, e, R, s, m, args, below, meth, c, A, Q, ce, sl⟩ := K
  intro F H locs la hP hS hl
  exact lv_ineg F.1 F.2.1 dg (k F H locs la hP hS hl)
theorem z_ladd {x y : Int64} (dg : decode cc pc = .ok (.ladd, 1)) (k : Z K d own cc nL (pc + 1) ls (zL (x + y) :: sk) μ) : Z K d own cc nL pc ls (zL y :: zL x :: sk) μ := by
  obtain ⟨G, p, l, e, R, s, m, args, below, meth, c, A, Q, ce, sl⟩ := K
  intro F H locs la hP hS hl
  exact lv_ladd F.1 F.2.1 dg (k F H locs la hP hS hl)
theorem z_lsub {x y : Int64} (dg : decode cc pc = .ok (.lsub, 1)) (k : Z K d own cc nL (pc + 1) ls (zL (x - y) :: sk) μ) : Z K d own cc nL pc ls (zL y :: zL x :: sk) μ := by
  obtain ⟨G, p, l, e, R, s, m, args, below, meth, c, A, Q, ce, sl⟩ := K
  intro F H locs la hP hS hl
  exact lv_lsub F.1 F.2.1 dg (k F H locs la hP hS hl)
theorem z_lmul {x y : Int64} (dg : decode cc pc = .ok (.lmul, 1)) (k : Z K d own cc nL (pc + 1) ls (zL (x * y) :: sk) μ) : Z K d own cc nL pc ls (zL y :: zL x :: sk) μ := by
  obtain ⟨G, p, l, e, R, s, m, args, below, meth, c, A, Q, ce, sl⟩ := K
  intro F H locs la hP hS hl
  exact lv_lmul F.1 F.2.1 dg (k F H locs la hP hS hl)
theorem z_ldiv {x y : Int64} (dg : decode cc pc = .ok (.ldiv, 1)) (hy : ¬ y = 0) (k : Z K d own cc nL (pc + 1) ls (zL (x / y) :: sk) μ) : Z K d own cc nL pc ls (zL y :: zL x :: sk) μ := by
  obtain ⟨G, p, l, e, R, s, m, args, below, meth, c, A, Q, ce, sl⟩ := K
  intro F H locs la hP hS hl
  exact lv_ldiv F.1 F.2.1 dg hy (k F H locs la hP hS hl)
theorem z_lneg {x : Int64} (dg : decode cc pc = .ok (.lneg, 1)) (k : Z K d own cc nL (pc + 1) ls (zL (-x) :: sk) μ) : Z K d own cc nL pc ls (zL x :: sk) μ := by
  obtain ⟨G, p, l, e, R, s, m, args, below, meth, c, A, Q, ce, sl⟩ := K
  intro F H locs la hP hS hl
  exact lv_lneg F.1 F.2.1 dg (k F H locs la hP hS hl)
theorem z_i2l {x : Int32} (dg : decode cc pc = .ok (.i2l, 1)) (k : Z K d own cc nL (pc + 1) ls (zL x.toInt64 :: sk) μ) : Z K d own cc nL pc ls (zI x :: sk) μ := by
  obtain ⟨G, p, l, e, R, s, m, args, below, meth, c, A, Q, ce, sl⟩ := K
  intro F H locs la hP hS hl
  exact lv_i2l F.1 F.2.1 dg rfl (k F H locs la hP hS hl)
theorem z_l2i {x : Int64} (dg : decode cc pc = .ok (.l2i, 1)) (k : Z K d own cc nL (pc + 1) ls (zI x.toInt32 :: sk) μ) : Z K d own cc nL pc ls (zL x :: sk) μ := by
  obtain ⟨G, p, l, e, R, s, m, args, below, meth, c, A, Q, ce, sl⟩ := K
  intro F H locs la hP hS hl
  exact lv_l2i F.1 F.2.1 dg rfl (k F H locs la hP hS hl)
theorem z_i2c {x : Int32} (dg : decode cc pc = .ok (.i2c, 1)) (k : Z K d own cc nL (pc + 1) ls (zI (x.toUInt32 % 65536).toInt32 :: sk) μ) : Z K d own cc nL pc ls (zI x :: sk) μ := by
  obtain ⟨G, p, l, e, R, s, m, args, below, meth, c, A, Q, ce, sl⟩ := K
  intro F H locs la hP hS hl
  exact lv_i2c F.1 F.2.1 dg rfl (k F H locs la hP hS hl)
theorem z_lcmp {x y : Int64} (dg : decode cc pc = .ok (.lcmp, 1)) (k : Z K d own cc nL (pc + 1) ls (zI (lg_cmp x y) :: sk) μ) : Z K d own cc nL pc ls (zL y :: zL x :: sk) μ := by
  obtain ⟨G, p, l, e, R, s, m, args, below, meth, c, A, Q, ce, sl⟩ := K
  intro F H locs la hP hS hl
  exact W.lcmp F.1 F.2.1 dg (k F H locs la hP hS hl)
theorem z_dup {v : zV} (dg : decode cc pc = .ok (.dup, 1)) (hv : zcat v = 1) (k : Z K d own cc nL (pc + 1) ls (v :: v :: sk) μ) : Z K d own cc nL pc ls (v :: sk) μ := by
  obtain ⟨G, p, l, e, R, s, m, args, below, meth, c, A, Q, ce, sl⟩ := K
  intro F H locs la hP hS hl
  exact lv_dup F.1 F.2.1 dg (by rw [zcat_eq]; exact hv) (k F H locs la hP hS hl)
theorem z_dup2 {v u : zV} (dg : decode cc pc = .ok (.dup2, 1)) (hv : zcat v = 1) (hu : zcat u = 1) (k : Z K d own cc nL (pc + 1) ls (v :: u :: v :: u :: sk) μ) : Z K d own cc nL pc ls (v :: u :: sk) μ := by
  obtain ⟨G, p, l, e, R, s, m, args, below, meth, c, A, Q, ce, sl⟩ := K
  intro F H locs la hP hS hl
  exact lv_dup2_11 F.1 F.2.1 dg (by rw [zcat_eq]; exact hv) (by rw [zcat_eq]; exact hu) (k F H locs la hP hS hl)
theorem z_dup_x1 {v u : zV} (dg : decode cc pc = .ok (.dup_x1, 1)) (hv : zcat v = 1) (hu : zcat u = 1) (k : Z K d own cc nL (pc + 1) ls (v :: u :: v :: sk) μ) : Z K d own cc nL pc ls (v :: u :: sk) μ := by
  obtain ⟨G, p, l, e, R, s, m, args, below, meth, c, A, Q, ce, sl⟩ := K
  intro F H locs la hP hS hl
  exact lv_dup_x1 F.1 F.2.1 dg (by rw [zcat_eq]; exact hv) (by rw [zcat_eq]; exact hu) (k F H locs la hP hS hl)
theorem z_if_eq {x : Int32} {off : Int} {tgt : Nat} (dg : decode cc pc = .ok (.ifCond .eq off, 3)) (ht : (pc : Int) + off = (tgt : Int)) (kt : x = 0 → Z K d own cc nL tgt ls sk μ) (kf : ¬ x = 0 → Z K d own cc nL (pc + 3) ls sk μ) : Z K d own cc nL pc ls (zI x :: sk) μ := by
  obtain ⟨G, p, l, e, R, s, m, args, below, meth, c, A, Q, ce, sl⟩ := K
  intro F H locs la hP hS hl
  exact lv_if_eq F.1 F.2.1 dg ht (fun h => kt h F H locs la hP hS hl) (fun h => kf h F H locs la hP hS hl)
theorem z_icmp_eq {x y : Int32} {off : Int} {tgt : Nat} (dg : decode cc pc = .ok (.if_icmp .eq off, 3)) (ht : (pc : Int) + off = (tgt : Int)) (kt : x = y → Z K d own cc nL tgt ls sk μ) (kf : ¬ x = y → Z K d own cc nL (pc + 3) ls sk μ) : Z K d own cc nL pc ls (zI y :: zI x :: sk) μ := by
  obtain ⟨G, p, l, e, R, s, m, args, below, meth, c, A, Q, ce, sl⟩ := K
  intro F H locs la hP hS hl
  exact lv_icmp_eq F.1 F.2.1 dg ht (fun h => kt h F H locs la hP hS hl) (fun h => kf h F H locs la hP hS hl)
theorem z_if_ne {x : Int32} {off : Int} {tgt : Nat} (dg : decode cc pc = .ok (.ifCond .ne off, 3)) (ht : (pc : Int) + off = (tgt : Int)) (kt : ¬ x = 0 → Z K d own cc nL tgt ls sk μ) (kf : x = 0 → Z K d own cc nL (pc + 3) ls sk μ) : Z K d own cc nL pc ls (zI x :: sk) μ := by
  obtain ⟨G, p, l, e, R, s, m, args, below, meth, c, A, Q, ce, sl⟩ := K
  intro F H locs la hP hS hl
  exact lv_if_ne F.1 F.2.1 dg ht (fun h => kt h F H locs la hP hS hl) (fun h => kf h F H locs la hP hS hl)
theorem z_icmp_ne {x y : Int32} {off : Int} {tgt : Nat} (dg : decode cc pc = .ok (.if_icmp .ne off, 3)) (ht : (pc : Int) + off = (tgt : Int)) (kt : ¬ x = y → Z K d own cc nL tgt ls sk μ) (kf : x = y → Z K d own cc nL (pc + 3) ls sk μ) : Z K d own cc nL pc ls (zI y :: zI x :: sk) μ := by
  obtain ⟨G, p, l, e, R, s, m, args, below, meth, c, A, Q, ce, sl⟩ := K
  intro F H locs la hP hS hl
  exact lv_icmp_ne F.1 F.2.1 dg ht (fun h => kt h F H locs la hP hS hl) (fun h => kf h F H locs la hP hS hl)
theorem z_if_lt {x : Int32} {off : Int} {tgt : Nat} (dg : decode cc pc = .ok (.ifCond .lt off, 3)) (ht : (pc : Int) + off = (tgt : Int)) (kt : x < 0 → Z K d own cc nL tgt ls sk μ) (kf : ¬ x < 0 → Z K d own cc nL (pc + 3) ls sk μ) : Z K d own cc nL pc ls (zI x :: sk) μ := by
  obtain ⟨G, p, l, e, R, s, m, args, below, meth, c, A, Q, ce, sl⟩ := K
  intro F H locs la hP hS hl
  exact lv_if_lt F.1 F.2.1 dg ht (fun h => kt h F H locs la hP hS hl) (fun h => kf h F H locs la hP hS hl)
theorem z_icmp_lt {x y : Int32} {off : Int} {tgt : Nat} (dg : decode cc pc = .ok (.if_icmp .lt off, 3)) (ht : (pc : Int) + off = (tgt : Int)) (kt : x < y → Z K d own cc nL tgt ls sk μ) (kf : ¬ x < y → Z K d own cc nL (pc + 3) ls sk μ) : Z K d own cc nL pc ls (zI y :: zI x :: sk) μ := by
  obtain ⟨G, p, l, e, R, s, m, args, below, meth, c, A, Q, ce, sl⟩ := K
  intro F H locs la hP hS hl
  exact lv_icmp_lt F.1 F.2.1 dg ht (fun h => kt h F H locs la hP hS hl) (fun h => kf h F H locs la hP hS hl)
theorem z_if_ge {x : Int32} {off : Int} {tgt : Nat} (dg : decode cc pc = .ok (.ifCond .ge off, 3)) (ht : (pc : Int) + off = (tgt : Int)) (kt : 0 ≤ x → Z K d own cc nL tgt ls sk μ) (kf : ¬ 0 ≤ x → Z K d own cc nL (pc + 3) ls sk μ) : Z K d own cc nL pc ls (zI x :: sk) μ := by
  obtain ⟨G, p, l, e, R, s, m, args, below, meth, c, A, Q, ce, sl⟩ := K
  intro F H locs la hP hS hl
  exact lv_if_ge F.1 F.2.1 dg ht (fun h => kt h F H locs la hP hS hl) (fun h => kf h F H locs la hP hS hl)
theorem z_icmp_ge {x y : Int32} {off : Int} {tgt : Nat} (dg : decode cc pc = .ok (.if_icmp .ge off, 3)) (ht : (pc : Int) + off = (tgt : Int)) (kt : y ≤ x → Z K d own cc nL tgt ls sk μ) (kf : ¬ y ≤ x → Z K d own cc nL (pc + 3) ls sk μ) : Z K d own cc nL pc ls (zI y :: zI x :: sk) μ := by
  obtain ⟨G, p, l, e, R, s, m, args, below, meth, c, A, Q, ce, sl⟩ := K
  intro F H locs la hP hS hl
  exact lv_icmp_ge F.1 F.2.1 dg ht (fun h => kt h F H locs la hP hS hl) (fun h => kf h F H locs la hP hS hl)
theorem z_if_gt {x : Int32} {off : Int} {tgt : Nat} (dg : decode cc pc = .ok (.ifCond .gt off, 3)) (ht : (pc : Int) + off = (tgt : Int)) (kt : 0 < x → Z K d own cc nL tgt ls sk μ) (kf : ¬ 0 < x → Z K d own cc nL (pc + 3) ls sk μ) : Z K d own cc nL pc ls (zI x :: sk) μ := by
  obtain ⟨G, p, l, e, R, s, m, args, below, meth, c, A, Q, ce, sl⟩ := K
  intro F H locs la hP hS hl
  exact lv_if_gt F.1 F.2.1 dg ht (fun h => kt h F H locs la hP hS hl) (fun h => kf h F H locs la hP hS hl)
theorem z_icmp_gt {x y : Int32} {off : Int} {tgt : Nat} (dg : decode cc pc = .ok (.if_icmp .gt off, 3)) (ht : (pc : Int) + off = (tgt : Int)) (kt : y < x → Z K d own cc nL tgt ls sk μ) (kf : ¬ y < x → Z K d own cc nL (pc + 3) ls sk μ) : Z K d own cc nL pc ls (zI y :: zI x :: sk) μ := by
  obtain ⟨G, p, l, e, R, s, m, args, below, meth, c, A, Q, ce, sl⟩ := K
  intro F H locs la hP hS hl
  exact lv_icmp_gt F.1 F.2.1 dg ht (fun h => kt h F H locs la hP hS hl) (fun h => kf h F H locs la hP hS hl)
theorem z_if_le {x : Int32} {off : Int} {tgt : Nat} (dg : decode cc pc = .ok (.ifCond .le off, 3)) (ht : (pc : Int) + off = (tgt : Int)) (kt : x ≤ 0 → Z K d own cc nL tgt ls sk μ) (kf : ¬ x ≤ 0 → Z K d own cc nL (pc + 3) ls sk μ) : Z K d own cc nL pc ls (zI x :: sk) μ := by
  obtain ⟨G, p, l, e, R, s, m, args, below, meth, c, A, Q, ce, sl⟩ := K
  intro F H locs la hP hS hl
  exact lv_if_le F.1 F.2.1 dg ht (fun h => kt h F H locs la hP hS hl) (fun h => kf h F H locs la hP hS hl)
theorem z_icmp_le {x y : Int32} {off : Int} {tgt : Nat} (dg : decode cc pc = .ok (.if_icmp .le off, 3)) (ht : (pc : Int) + off = (tgt : Int)) (kt : x ≤ y → Z K d own cc nL tgt ls sk μ) (kf : ¬ x ≤ y → Z K d own cc nL (pc + 3) ls sk μ) : Z K d own cc nL pc ls (zI y :: zI x :: sk) μ := by
  obtain ⟨G, p, l, e, R, s, m, args, below, meth, c, A, Q, ce, sl⟩ := K
  intro F H locs la hP hS hl
  exact lv_icmp_le F.1 F.2.1 dg ht (fun h => kt h F H locs la hP hS hl) (fun h => kf h F H locs la hP hS hl)
theorem z_goto {off : Int} {tgt : Nat} (dg : decode cc pc = .ok (.goto off, 3)) (ht : (pc : Int) + off = (tgt : Int)) (k : Z K d own cc nL tgt ls sk μ) : Z K d own cc nL pc ls sk μ := by
  obtain ⟨G, p, l, e, R, s, m, args, below, meth, c, A, Q, ce, sl⟩ := K
  intro F H locs la hP hS hl
  exact lv_goto F.1 F.2.1 dg ht (k F H locs la hP hS hl)
theorem z_pc {pc' : Nat} (h : pc = pc') (k : Z K d own cc nL pc' ls sk μ) : Z K d own cc nL pc ls sk μ := h ▸ k
theorem z_tabOut {dflt lo hi : Int} {offs : Array Int} {len : Nat} {x : Int32} {tgt : Nat} (dg : decode cc pc = .ok (.tableswitch dflt lo hi offs, len)) (h : x.toInt < lo ∨ hi < x.toInt) (ht : (pc : Int) + dflt = (tgt : Int)) (k : Z K d own cc nL tgt ls sk μ) : Z K d own cc nL pc ls (zI x :: sk) μ := by
  obtain ⟨G, p, l, e, R, s, m, args, below, meth, c, A, Q, ce, sl⟩ := K
  intro F H locs la hP hS hl
  exact lv_tableOut F.1 F.2.1 dg h ht (k F H locs la hP hS hl)
theorem z_tabIn {dflt lo hi : Int} {offs : Array Int} {len : Nat} {x : Int32} {off : Int} {tgt : Nat} (dg : decode cc pc = .ok (.tableswitch dflt lo hi offs, len)) (h1 : ¬ x.toInt < lo) (h2 : ¬ hi < x.toInt) (ho : offs[(x.toInt - lo).toNat]? = some off) (ht : (pc : Int) + off = (tgt : Int)) (k : Z K d own cc nL tgt ls sk μ) : Z K d own cc nL pc ls (zI x :: sk) μ := by
  obtain ⟨G, p, l, e, R, s, m, args, below, meth, c, A, Q, ce, sl⟩ := K
  intro F H locs la hP hS hl
  exact lv_tableIn F.1 F.2.1 dg h1 h2 ho ht (k F H locs la hP hS hl)
theorem z_lookup {dflt : Int} {ps : Array (Int × Int)} {len : Nat} {x : Int32} {off : Int} {tgt : Nat} (dg : decode cc pc = .ok (.lookupswitch dflt ps, len)) (hp : (ps.toList.zip (ps.toList.drop 1)).all (fun (a, next) => a.1 < next.1) = true) (ho : Op.lookupswitch.offset ps.toList dflt x.toInt = off) (ht : (pc : Int) + off = (tgt : Int)) (k : Z K d own cc nL tgt ls sk μ) : Z K d own cc nL pc ls (zI x :: sk) μ := by
  obtain ⟨G, p, l, e, R, s, m, args, below, meth, c, A, Q, ce, sl⟩ := K
  intro F H locs la hP hS hl
  exact lv_lookup F.1 F.2.1 dg hp ho ht (k F H locs la hP hS hl)
end ZROWS
