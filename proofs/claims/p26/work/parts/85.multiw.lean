theorem mq_top (s : State) (f : JFrame) (c comp : ClassId) : ∀ i, mq_s (s.setTop f) c comp i = (mq_s s c comp i).setTop f
  | 0 => rfl
  | i + 1 => by simp only [mq_s, mq_top s f c comp i, State.heap_setTop, State.pushCell_setTop, State.setCell_setTop]
theorem mq_old (s : State) (c comp : ClassId) {a : Addr} (ha : a < s.heap.size) : ∀ i, (mq_s s c comp i).heap[a]? = s.heap[a]?
  | 0 => State.heap_pushCell_of_lt _ _ ha
  | i + 1 => by
    have f1 := (mq_f s c comp i).1
    show (((mq_s s c comp i).pushCell (mq_i comp)).setCell s.heap.size _).heap[a]? = _
    have hlt : a < (mq_s s c comp i).heap.size := Nat.lt_of_lt_of_le ha (by rw [f1]; omega)
    rw [State.heap_setCell_other (Nat.ne_of_gt ha), State.heap_pushCell_of_lt (h := hlt)]
    exact mq_old s c comp ha i
theorem mq_in (s : State) (c comp : ClassId) : ∀ i j, j < i → (mq_s s c comp i).heap[s.heap.size + 1 + j]? = some (mq_i comp)
  | 0, _, h => absurd h (Nat.not_lt_zero _)
  | i + 1, j, h => by
    have f1 := (mq_f s c comp i).1
    show (((mq_s s c comp i).pushCell (mq_i comp)).setCell s.heap.size _).heap[s.heap.size + 1 + j]? = _
    rw [State.heap_setCell_other (show s.heap.size ≠ s.heap.size + 1 + j by omega)]
    by_cases hj : j < i
    · have hlt : s.heap.size + 1 + j < (mq_s s c comp i).heap.size := by rw [f1]; omega
      rw [State.heap_pushCell_of_lt (h := hlt)]
      exact mq_in s c comp i j hj
    · rw [show j = i by omega, ← f1]
      exact State.heap_pushCell_size _ _
section
variable {p : Program} {l : Launch} {e : Env} {R : Room} {s : State} {m : MethodId} {args : Array Value} {below : List Frame} {meth : Method} {c : Code} {locs : List Loc} {cells slots : Nat} {H : Heap} {Q : State → Prop}
theorem mq_stand {T : State} (X : Stand p l e R s m args below meth c T locs cells slots) (cA comp : ClassId) : ∀ i, i ≤ 3 → Stand p l e R s m args below meth c (mq_s T cA comp i) locs (cells + 1 + i) (slots + 3 + i * 576)
  | 0, _ => by
    have h := X.pushed (mq_o cA T.heap.size 0)
    exact h
  | i + 1, hi => by
    have Xi := mq_stand X cA comp i (by omega)
    obtain ⟨f1, f2, -, -⟩ := mq_f T cA comp i
    have hlt : T.heap.size < (mq_s T cA comp i).heap.size := by rw [f1]; omega
    have hb : ((mq_s T cA comp i).pushCell (mq_i comp)).heap[T.heap.size]? = some (mq_o cA T.heap.size i) := by rw [State.heap_pushCell_of_lt (h := hlt)]; exact f2
    have h := (Xi.pushed (mq_i comp)).stored hb i (.ref (T.heap.size + 1 + i))
    rw [mq_set cA _ i (by omega)] at h
    have h2 := Stand.dropFresh h (fun x hx => by
      rw [List.mem_singleton.mp hx]
      exact X.heapGrown)
    have e1 : (mq_i comp).slots.size = 576 := by simp [mq_i]
    rw [e1] at h2
    rw [show slots + 3 + (i + 1) * 576 = slots + 3 + i * 576 + 576 by omega]
    exact h2
theorem W_multi {cc : ByteArray} (hexec : p.tables.exec = Jvm.exec) (hb : c.code = cc) {own : String} {index : Nat} (hown : s.vm.findClass own = some m.cls) (hclink : (Cond.classLink own index ("[" ++ (FieldType.array .int).toString)).before args s = true) (hover : (Cond.arrayOver (.array .int)).before args s = true) (harr : (Cond.arrayClass .int).before args s = true)
    {g : JFrame} (hg : g.method = m) (hdg : decode cc g.pc = .ok (.multianewarray index 2, 4)) {rest : List Value} (hstack : g.stack = .int 576 :: .int 3 :: rest) (hcells : cells + 4 ≤ R.cells) (hslots : slots + 1731 ≤ R.slots)
    (kk : ∀ (cA comp : ClassId) (kA kC : Class) (cc' : ClassId) (H' : Heap), s.vm.findClass ("[" ++ (FieldType.array .int).toString) = some cA → s.vm.findClass (FieldType.array .int).toString = some comp → s.vm.classes[cA]? = some kA → kA.kind = .array comp (.array .int) → s.vm.classes[comp]? = some kC → kC.kind = .array cc' .int →
      H'.size = H.size + 4 → (∀ q, q < H.size → H'[q]? = H[q]?) → H'[H.size]? = some (mq_o cA H.size 3) → (∀ j, j < 3 → H'[H.size + 1 + j]? = some (mq_i comp)) → W p l e R s m args below meth c H' locs (cells + 4) (slots + 1731) Q { g with pc := g.pc + 4, stack := .ref H.size :: rest }) : W p l e R s m args below meth c H locs cells slots Q g := by
  intro T hT X
  subst hT; subst hb; subst hg
  have hpl : e.platform.magicAccessors = ({} : Platform).magicAccessors := by rw [X.admits.platform]
  obtain ⟨comp, cA, kA, hcomp, -, hkA, hkindA, hnameA⟩ := arrayOverA_spec hover
  obtain ⟨comp', kC, cc', hcomp', hkC, hkindC⟩ := Cond.arrayClass_spec harr
  cases hcomp'.symm.trans hcomp
  obtain ⟨c0, hfc0, hcl⟩ := Cond.classLink_spec hown hclink e.platform hpl
  cases hnameA.symm.trans hfc0
  obtain ⟨hg₁, hwarm₁, hready₁⟩ := State.classEntry (e := e) X.warmed hcl
  generalize T.vm.noted g.method.cls index (.cls cA) = vm₁ at hg₁ hwarm₁ hready₁
  have hal : s.vm.Alike vm₁ := hwarm₁.alike
  obtain ⟨kA₁, hkA₁, heA⟩ := hal.2.2 _ _ hkA
  obtain ⟨kC₁, hkC₁, heC⟩ := hal.2.2 _ _ hkC
  have hkindA₁ : kA₁.kind = .array comp (.array .int) := by rw [heA]; exact hkindA
  have hkindC₁ : kC₁.kind = .array cc' .int := by rw [heC]; exact hkindC
  have X₁ := X.noted hwarm₁
  obtain ⟨hr1, hr2⟩ := X.roomAbove hcells hslots
  have XF := mq_stand X₁ cA comp 3 (by omega)
  obtain ⟨f1, f2, -, -⟩ := mq_f (T.setVm vm₁) cA comp 3
  obtain ⟨t', a1, b1⟩ := kk cA comp kA kC cc' (mq_s (T.setVm vm₁) cA comp 3).heap hnameA hcomp hkA hkindA hkC hkindC (by rw [f1]; rfl) (fun q hq => mq_old (T.setVm vm₁) cA comp hq 3) f2 (fun j hj => mq_in (T.setVm vm₁) cA comp 3 j hj) (mq_s (T.setVm vm₁) cA comp 3) rfl (by simpa [Nat.add_assoc] using XF)
  refine ⟨t', ?_, b1⟩
  have hl : ¬ 576 > e.platform.arrayLengthLimit := by rw [Launch.admits_arrayLengthLimit X.admits]; omega
  have hh : ¬ 2304 > e.platform.maxHeapBytes := by rw [Launch.admits_maxHeapBytes X.admits]; omega
  jvm_step X.here [hexec, hdg]
  simp only [multianewarray.sem, wp_bind', W.resolveClassAt_links (State.method?_setTop g X.here.top) hg₁]
  rw [W.popN, if_neg (by decide)]
  refine ⟨g, State.topJava?_setTop' (s := T.setVm vm₁) g X.here.top, [.int 3, .int 576], rest, rfl, hstack, ?_⟩
  simp only [List.mapM_cons, List.mapM_nil, wp_bind', wp_pure']
  refine mq_make (s := ((T.setTop g).setVm vm₁).setTop { g with stack := rest }) (k := kA₁) (kc := kC₁) (comp := comp) (cc := cc') hkA₁ hkindA₁ hkC₁ hkindC₁ hl hh hr1 hr2 (fun d' acts' => ?_)
  have eS : ((T.setTop g).setVm vm₁).setTop { g with stack := rest } = (T.setVm vm₁).setTop { g with stack := rest } := by
    show ((T.setVm vm₁).setTop g).setTop _ = _
    rw [State.setTop_setTop]
  rw [eS, mq_top]
  simp only [wp_bind', W.mark, W.pushRef, State.topJava?_setTop' _ XF.here.top, Option.some.injEq, exists_eq_left', State.setTop_setTop, State.heap_setTop]
  intro acts
  simp [jvm, XF.here.top]
  exact a1
end
