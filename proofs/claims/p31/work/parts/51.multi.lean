/-! A new array of two arrays of 64 doubles. -/
def hm_i (comp : ClassId) : Cell := { cls := comp, slots := Array.replicate 64 (.double 0), vm := .none }
def hm_o (c : ClassId) : Cell := { cls := c, slots := Array.replicate 2 .null, vm := .none }
def hm_1 (s : State) (c comp : ClassId) : State := ((s.pushCell (hm_o c)).pushCell (hm_i comp)).setCell s.heap.size ((hm_o c).setSlot 0 (.ref (s.heap.size + 1)))
def hm_2 (s : State) (c comp : ClassId) : State := ((hm_1 s c comp).pushCell (hm_i comp)).setCell s.heap.size (((hm_o c).setSlot 0 (.ref (s.heap.size + 1))).setSlot 1 (.ref (s.heap.size + 2)))
theorem hm_z1 (s : State) (c comp : ClassId) : (hm_1 s c comp).heap.size = s.heap.size + 2 := by
  show (((s.heap.push _).push _).setIfInBounds _ _).size = _
  simp
theorem hm_z2 (s : State) (c comp : ClassId) : (hm_2 s c comp).heap.size = s.heap.size + 3 := by
  show (((hm_1 s c comp).heap.push _).setIfInBounds _ _).size = _
  simp [hm_z1]
theorem hm_o1 (s : State) (c comp : ClassId) {q : Nat} (hq : q < s.heap.size) : (hm_1 s c comp).heap[q]? = s.heap[q]? := by
  show (((s.heap.push _).push _).setIfInBounds _ _)[q]? = _
  rw [Array.getElem?_setIfInBounds_ne (by omega), Array.getElem?_push_lt (by simp; omega), Array.getElem_push_lt hq]
  exact (Array.getElem?_eq_getElem hq).symm
theorem hm_e1 (s : State) (c comp : ClassId) : (hm_1 s c comp).heap[s.heap.size]? = some ((hm_o c).setSlot 0 (.ref (s.heap.size + 1))) := by
  show (((s.heap.push _).push _).setIfInBounds _ _)[s.heap.size]? = _
  rw [Array.getElem?_setIfInBounds_self_of_lt (by simp; omega)]
theorem hm_b1 (s : State) (c comp : ClassId) : (hm_1 s c comp).heap[s.heap.size + 1]? = some (hm_i comp) := by
  show (((s.heap.push _).push _).setIfInBounds _ _)[s.heap.size + 1]? = _
  rw [Array.getElem?_setIfInBounds_ne (by omega)]
  have h : s.heap.size + 1 = (s.heap.push (hm_o c)).size := by simp
  rw [h, Array.getElem?_push_size]
theorem hm_o2 (s : State) (c comp : ClassId) {q : Nat} (hq : q < s.heap.size) : (hm_2 s c comp).heap[q]? = s.heap[q]? := by
  show (((hm_1 s c comp).heap.push _).setIfInBounds _ _)[q]? = _
  have hz := hm_z1 s c comp
  rw [Array.getElem?_setIfInBounds_ne (by omega), Array.getElem?_push, if_neg (by omega)]
  exact hm_o1 s c comp hq
theorem hm_e2 (s : State) (c comp : ClassId) : (hm_2 s c comp).heap[s.heap.size]? = some (((hm_o c).setSlot 0 (.ref (s.heap.size + 1))).setSlot 1 (.ref (s.heap.size + 2))) := by
  show (((hm_1 s c comp).heap.push _).setIfInBounds _ _)[s.heap.size]? = _
  have hz := hm_z1 s c comp
  rw [Array.getElem?_setIfInBounds_self_of_lt (by simp; omega)]
theorem hm_b2 (s : State) (c comp : ClassId) : (hm_2 s c comp).heap[s.heap.size + 1]? = some (hm_i comp) ∧ (hm_2 s c comp).heap[s.heap.size + 2]? = some (hm_i comp) := by
  have hz := hm_z1 s c comp
  constructor
  · show (((hm_1 s c comp).heap.push _).setIfInBounds _ _)[s.heap.size + 1]? = _
    rw [Array.getElem?_setIfInBounds_ne (by omega), Array.getElem?_push, if_neg (by omega)]
    exact hm_b1 s c comp
  · show (((hm_1 s c comp).heap.push _).setIfInBounds _ _)[s.heap.size + 2]? = _
    rw [Array.getElem?_setIfInBounds_ne (by omega), ← hz, Array.getElem?_push_size]
section HM
variable {E : CtlPost} {e : Env} {d : Bool} {acts : List Action} {s : State}
theorem hm_new {c comp : ClassId} {k : Class} {ty : FieldType} {n : Nat} {v : Value} (h1 : s.vm.classes[c]? = some k) (h2 : k.kind = .array comp ty) (h3 : n ≤ e.platform.arrayLengthLimit) (h4 : n * componentBytes ty ≤ e.platform.maxHeapBytes) (h5 : fits ty v = true) (h6 : s.heap.size < e.platform.maxCells) (h7 : s.slotsUsed + n ≤ e.platform.maxSlots) {Q : Addr → Pre}
    (kk : ∀ acts', Q s.heap.size d acts' (s.pushCell { cls := c, slots := Array.replicate n v, vm := .none })) : wp (Jvm.newArray c n v) Q E e d acts s := by
  have n1 : ¬ n > e.platform.arrayLengthLimit := Nat.not_lt.mpr h3
  have n2 : ¬ n * componentBytes ty > e.platform.maxHeapBytes := Nat.not_lt.mpr h4
  have n3 : ¬ n > e.platform.maxSlots := by omega
  simp only [Jvm.newArray, Jvm.arrayFits, wp_bind', W.ask, W.ite, n1, if_false, wp_pure', W.theClass, h1, h2, n2, Option.some.injEq, exists_eq_left', n3, W.alloc, Array.size_replicate]
  refine ⟨h6, h7, fun i v' hv => ?_, kk _⟩
  rw [Array.getElem?_replicate] at hv
  split at hv
  · cases hv
    simp [State.fitsSlot, State.slotType?, h1, h2, h5]
  · cases hv
theorem hm_row {comp cc : ClassId} {kc : Class} (h3 : s.vm.classes[comp]? = some kc) (h4 : kc.kind = .array cc .double) (l1 : 64 ≤ e.platform.arrayLengthLimit) (l2 : 512 ≤ e.platform.maxHeapBytes) (h6 : s.heap.size < e.platform.maxCells) (h7 : s.slotsUsed + 64 ≤ e.platform.maxSlots) {Q : Addr → Pre} (kk : ∀ acts', Q s.heap.size d acts' (s.pushCell (hm_i comp))) : wp (multianewarray.make comp [nI 64]) Q E e d acts s := by
  have n0 : ¬ nI 64 < 0 := by decide
  have c0 : (nI 64).toNatClampNeg = 64 := nI_clamp (by decide)
  rw [multianewarray.make]
  simp only [wp_bind', W.ite, n0, if_false, wp_pure', W.theClass, h3, h4, Option.some.injEq, exists_eq_left', c0]
  exact hm_new h3 h4 l1 l2 rfl h6 h7 kk
theorem hm_make {c comp cc : ClassId} {k kc : Class} (h1 : s.vm.classes[c]? = some k) (h2 : k.kind = .array comp (.array .double)) (h3 : s.vm.classes[comp]? = some kc) (h4 : kc.kind = .array cc .double) (l1 : 64 ≤ e.platform.arrayLengthLimit) (l2 : 512 ≤ e.platform.maxHeapBytes) (l3 : s.heap.size + 3 ≤ e.platform.maxCells) (l4 : s.slotsUsed + 130 ≤ e.platform.maxSlots) {Q : Addr → Pre}
    (kk : ∀ d' acts', Q s.heap.size d' acts' (hm_2 s c comp)) : wp (multianewarray.make c [nI 2, nI 64]) Q E e d acts s := by
  have n0 : ¬ nI 2 < 0 := by decide
  have n1 : ¬ nI 64 < 0 := by decide
  have c0 : (nI 2).toNatClampNeg = 2 := nI_clamp (by decide)
  have fr : ∀ a : Addr, fits (.array .double) (.ref a) = true := fun _ => rfl
  rw [multianewarray.make]
  simp only [wp_bind', W.ite, n0, if_false, wp_pure', W.theClass, h1, h2, Option.some.injEq, exists_eq_left', c0]
  refine hm_new h1 h2 (by omega) (by show 2 * 4 ≤ _; omega) rfl (by omega) (by omega) (fun acts1 => ?_)
  have hf : ([nI 64].find? (· < 0)) = none := by simp [n1]
  simp only [hf]
  rw [ite_self, wp_bind', Std.Legacy.Range.forIn_eq_forIn_range']
  have hr : List.range' (0 : Nat) (([:2] : Std.Legacy.Range).size) 1 = [0, 1] := by decide
  show wp (forIn (List.range' 0 _ 1) PUnit.unit _) _ E e d _ _
  rw [hr]
  simp only [List.forIn_cons, List.forIn_nil, wp_bind']
  refine hm_row (s := s.pushCell (hm_o c)) h3 h4 l1 l2 (by show (s.heap.push _).size < _; simp; omega) (by show s.slotsUsed + (hm_o c).slots.size + 64 ≤ _; simp [hm_o]; omega) (fun acts2 => ?_)
  sorry
end HM
