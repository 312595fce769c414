/-! new int[3][576]: the machine's own making of it, three rows one behind another -/
def mq_o (c : ClassId) (h i : Nat) : Cell := { cls := c, slots := #[if 0 < i then .ref (h + 1) else .null, if 1 < i then .ref (h + 2) else .null, if 2 < i then .ref (h + 3) else .null], vm := .none }
def mq_i (comp : ClassId) : Cell := { cls := comp, slots := Array.replicate 576 (.int 0), vm := .none }
def mq_s (s : State) (c comp : ClassId) : Nat → State
  | 0 => s.pushCell (mq_o c s.heap.size 0)
  | i + 1 => ((mq_s s c comp i).pushCell (mq_i comp)).setCell s.heap.size (mq_o c s.heap.size (i + 1))
theorem mq_set (c : ClassId) (h : Nat) : ∀ i, i < 3 → (mq_o c h i).setSlot i (.ref (h + 1 + i)) = mq_o c h (i + 1)
  | 0, _ => rfl
  | 1, _ => rfl
  | 2, _ => rfl
theorem mq_f (s : State) (c comp : ClassId) : ∀ i, (mq_s s c comp i).heap.size = s.heap.size + 1 + i ∧ (mq_s s c comp i).heap[s.heap.size]? = some (mq_o c s.heap.size i) ∧ (mq_s s c comp i).vm = s.vm ∧ (mq_s s c comp i).slotsUsed = s.slotsUsed + 3 + i * 576
  | 0 => ⟨by simp [mq_s], by simp [mq_s], rfl, by simp [mq_s, mq_o]⟩
  | i + 1 => by
    obtain ⟨a, b, v, u⟩ := mq_f s c comp i
    have hlt : s.heap.size < (mq_s s c comp i).heap.size := by omega
    have hb : ((mq_s s c comp i).pushCell (mq_i comp)).heap[s.heap.size]? = some (mq_o c s.heap.size i) := by rw [State.heap_pushCell_of_lt (h := hlt)]; exact b
    refine ⟨?_, State.heap_setCell_self hb, by simp [mq_s, v], ?_⟩
    · simp [mq_s, State.setCell, a]; omega
    · simp [mq_s, u, mq_i]; omega
section
variable {E : CtlPost} {e : Env} {d : Bool} {acts : List Action} {s : State}
theorem mq_new {c comp : ClassId} {k : Class} {type : FieldType} {len : Nat} {v : Value} (hk : s.vm.classes[c]? = some k) (hkind : k.kind = .array comp type) (hl : ¬ len > e.platform.arrayLengthLimit) (hh : ¬ len * componentBytes type > e.platform.maxHeapBytes) (hf : fits type v = true) (hd : v.isDefault = true) {Q : Addr → Pre}
    (h1 : s.heap.size < e.platform.maxCells) (h2 : s.slotsUsed + len ≤ e.platform.maxSlots) (hq : Q s.heap.size d acts (s.pushCell { cls := c, slots := Array.replicate len v, vm := .none })) : wp (Jvm.newArray c len v) Q E e d acts s := by
  have h3 : ∀ (i : Nat) (x : Value), (Array.replicate len v)[i]? = some x → s.fitsSlot c .none i x = true := by
    intro i x hx
    rw [Array.getElem?_replicate] at hx
    by_cases hi : i < len
    · rw [if_pos hi] at hx
      cases hx
      simp [State.fitsSlot, State.slotType?, hk, hkind, hf]
    · rw [if_neg hi] at hx
      cases hx
  have h4 : allocActs (Array.replicate len v) s.heap.size acts = acts := by
    have hall : (Array.replicate len v).all (fun x => x.isDefault) = true := by rw [Array.all_replicate]; split <;> simp [hd]
    unfold allocActs
    rw [if_pos hall]
  simp only [Jvm.newArray, Jvm.arrayFits, wp_bind', W.ask, W.ite, hl, if_false, wp_pure', W.theClass, hk, hkind, hh, W.alloc, W.stop, Option.some.injEq, exists_eq_left', Array.size_replicate, h4]
  rw [if_neg (by omega)]
  exact ⟨h1, h2, h3, hq⟩
theorem mq_make {c comp cc : ClassId} {k kc : Class} (hk : s.vm.classes[c]? = some k) (hkind : k.kind = .array comp (.array .int)) (hkc : s.vm.classes[comp]? = some kc) (hkindc : kc.kind = .array cc .int)
    (hl : ¬ 576 > e.platform.arrayLengthLimit) (hh : ¬ 2304 > e.platform.maxHeapBytes) (hc : s.heap.size + 4 ≤ e.platform.maxCells) (hs : s.slotsUsed + 1731 ≤ e.platform.maxSlots) {Q : Addr → Pre} (hq : ∀ d' acts', Q s.heap.size d' acts' (mq_s s c comp 3)) : wp (multianewarray.make c [3, 576]) Q E e d acts s := by
  have n3 : ¬ (3 : Int32) < 0 := by decide
  have n576 : ¬ (576 : Int32) < 0 := by decide
  have t3 : (3 : Int32).toNatClampNeg = 3 := by decide
  have t576 : (576 : Int32).toNatClampNeg = 576 := by decide
  have hz : ((3 : Int32) == 0) = false := by decide
  rw [multianewarray.make]
  simp only [wp_bind', W.ite, n3, if_false, wp_pure', W.theClass, hk, hkind, Option.some.injEq, exists_eq_left', t3]
  refine mq_new hk hkind (by omega) (by show ¬ 3 * 4 > _; omega) rfl rfl (by omega) (by omega) ?_
  simp only [hz, Bool.false_eq_true, if_false, wp_pure']
  rw [wp_bind', Std.Legacy.Range.forIn_eq_forIn_range']
  show wp (forIn [0, 1, 2] PUnit.unit _) _ E e d acts (mq_s s c comp 0)
  refine wp_forIn_inv (fun rest s' => ∃ i, i ≤ 3 ∧ rest = List.drop i [0, 1, 2] ∧ s' = mq_s s c comp i) _ _ ⟨0, by omega, rfl, rfl⟩ ?_ ?_
  · rintro x rest s' d' acts' Q' ⟨i, hi, hr, rfl⟩ hnext
    have hx : i < 3 ∧ x = i ∧ rest = List.drop (i + 1) [0, 1, 2] := by
      rcases (show i = 0 ∨ i = 1 ∨ i = 2 ∨ i = 3 by omega) with rfl | rfl | rfl | rfl
      · cases hr; exact ⟨by omega, rfl, rfl⟩
      · cases hr; exact ⟨by omega, rfl, rfl⟩
      · cases hr; exact ⟨by omega, rfl, rfl⟩
      · cases hr
    obtain ⟨hlt, rfl, hrest⟩ := hx
    obtain ⟨f1, f2, f3, f4⟩ := mq_f s c comp x
    have f0 : s.heap.size < (mq_s s c comp x).heap.size := by omega
    simp only [wp_bind']
    rw [multianewarray.make]
    simp only [wp_bind', W.ite, n576, if_false, wp_pure', W.theClass, f3, hkc, hkindc, Option.some.injEq, exists_eq_left', t576]
    refine mq_new (by rw [f3]; exact hkc) hkindc hl (by show ¬ 576 * 4 > _; omega) rfl rfl (by omega) (by omega) ?_
    simp only [wp_bind', W.writeLoc, wp_pure']
    refine ⟨mq_o c s.heap.size x, ?_, by simp [mq_o], by simp [mq_o]; omega, ?_, hnext _ _ _ ⟨x + 1, by omega, hrest, ?_⟩⟩
    · rw [State.heap_pushCell_of_lt (h := f0)]
      exact f2
    · simp [mq_o, State.fitsSlot, State.slotType?, f3, hk, hkind, fits]
    · rw [f1, mq_set c _ x hlt]
      rfl
  · rintro s' d' acts' ⟨i, hi, hr, rfl⟩
    have hi3 : i = 3 := by
      rcases (show i = 0 ∨ i = 1 ∨ i = 2 ∨ i = 3 by omega) with rfl | rfl | rfl | rfl
      · cases hr
      · cases hr
      · cases hr
      · rfl
    subst hi3
    exact hq _ _
end
