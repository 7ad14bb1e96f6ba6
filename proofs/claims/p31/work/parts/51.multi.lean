/-! A new array of two arrays of 64 doubles. -/
def hm_i (comp : ClassId) : Cell := { cls := comp, slots := Array.replicate 64 (.double 0), vm := .none }
def hm_o (c : ClassId) : Cell := { cls := c, slots := Array.replicate 2 .null, vm := .none }
def hm_1 (s : State) (c comp : ClassId) : State := ((s.pushCell (hm_o c)).pushCell (hm_i comp)).setCell s.heap.size ((hm_o c).setSlot 0 (.ref (s.heap.size + 1)))
def hm_2 (s : State) (c comp : ClassId) : State := ((hm_1 s c comp).pushCell (hm_i comp)).setCell s.heap.size (((hm_o c).setSlot 0 (.ref (s.heap.size + 1))).setSlot 1 (.ref (s.heap.size + 2)))
theorem hm_z1 (s : State) (c comp : ClassId) : (hm_1 s c comp).heap.size = s.heap.size + 2 := by
  show (((s.heap.push _).push _).setIfInBounds _ _).size = _
  simp
theorem hm_z2 (s : State) (c comp : ClassId) : (hm_2 s c comp).heap.size = s.heap.size + 3 := by
  show (((hm_1 s c comp).heap.push _).setIfInBounds _ _).size = _
  simp [hm_z1]
theorem hm_o1 (s : State) (c comp : ClassId) {q : Nat} (hq : q < s.heap.size) : (hm_1 s c comp).heap[q]? = s.heap[q]? := by
  show (((s.heap.push _).push _).setIfInBounds _ _)[q]? = _
  rw [Array.getElem?_setIfInBounds_ne (by omega), Array.getElem?_push_lt (by simp; omega), Array.getElem_push_lt hq]
  exact (Array.getElem?_eq_getElem hq).symm
theorem hm_e1 (s : State) (c comp : ClassId) : (hm_1 s c comp).heap[s.heap.size]? = some ((hm_o c).setSlot 0 (.ref (s.heap.size + 1))) := by
  show (((s.heap.push _).push _).setIfInBounds _ _)[s.heap.size]? = _
  rw [Array.getElem?_setIfInBounds_self_of_lt (by simp; omega)]
theorem hm_b1 (s : State) (c comp : ClassId) : (hm_1 s c comp).heap[s.heap.size + 1]? = some (hm_i comp) := by
  show (((s.heap.push _).push _).setIfInBounds _ _)[s.heap.size + 1]? = _
  rw [Array.getElem?_setIfInBounds_ne (by omega)]
  have h : s.heap.size + 1 = (s.heap.push (hm_o c)).size := by simp
  rw [h, Array.getElem?_push_size]
theorem hm_o2 (s : State) (c comp : ClassId) {q : Nat} (hq : q < s.heap.size) : (hm_2 s c comp).heap[q]? = s.heap[q]? := by
  show (((hm_1 s c comp).heap.push _).setIfInBounds _ _)[q]? = _
  have hz := hm_z1 s c comp
  rw [Array.getElem?_setIfInBounds_ne (by omega), Array.getElem?_push, if_neg (by omega)]
  exact hm_o1 s c comp hq
theorem hm_e2 (s : State) (c comp : ClassId) : (hm_2 s c comp).heap[s.heap.size]? = some (((hm_o c).setSlot 0 (.ref (s.heap.size + 1))).setSlot 1 (.ref (s.heap.size + 2))) := by
  show (((hm_1 s c comp).heap.push _).setIfInBounds _ _)[s.heap.size]? = _
  have hz := hm_z1 s c comp
  rw [Array.getElem?_setIfInBounds_self_of_lt (by simp; omega)]
theorem hm_b2 (s : State) (c comp : ClassId) : (hm_2 s c comp).heap[s.heap.size + 1]? = some (hm_i comp) ∧ (hm_2 s c comp).heap[s.heap.size + 2]? = some (hm_i comp) := by
  have hz := hm_z1 s c comp
  constructor
  · show (((hm_1 s c comp).heap.push _).setIfInBounds _ _)[s.heap.size + 1]? = _
    rw [Array.getElem?_setIfInBounds_ne (by omega), Array.getElem?_push, if_neg (by omega)]
    exact hm_b1 s c comp
  · show (((hm_1 s c comp).heap.push _).setIfInBounds _ _)[s.heap.size + 2]? = _
    rw [Array.getElem?_setIfInBounds_ne (by omega), ← hz, Array.getElem?_push_size]
section HM
variable {E : CtlPost} {e : Env} {d : Bool} {acts : List Action} {s : State}
theorem hm_new {c comp : ClassId} {k : Class} {ty : FieldType} {n : Nat} {v : Value} (h1 : s.vm.classes[c]? = some k) (h2 : k.kind = .array comp ty) (h3 : n ≤ e.platform.arrayLengthLimit) (h4 : n * componentBytes ty ≤ e.platform.maxHeapBytes) (h5 : fits ty v = true) (h6 : s.heap.size < e.platform.maxCells) (h7 : s.slotsUsed + n ≤ e.platform.maxSlots) {Q : Addr → Pre}
    (kk : ∀ acts', Q s.heap.size d acts' (s.pushCell { cls := c, slots := Array.replicate n v, vm := .none })) : wp (Jvm.newArray c n v) Q E e d acts s := by
  have n1 : ¬ n > e.platform.arrayLengthLimit := Nat.not_lt.mpr h3
  have n2 : ¬ n * componentBytes ty > e.platform.maxHeapBytes := Nat.not_lt.mpr h4
  have n3 : ¬ n > e.platform.maxSlots := by omega
  simp only [Jvm.newArray, Jvm.arrayFits, wp_bind', W.ask, W.ite, n1, if_false, wp_pure', W.theClass, h1, h2, n2, Option.some.injEq, exists_eq_left', n3, W.alloc, Array.size_replicate]
  refine ⟨h6, h7, fun i v' hv => ?_, kk _⟩
  rw [Array.getElem?_replicate] at hv
  split at hv
  · cases hv
    simp [State.fitsSlot, State.slotType?, h1, h2, h5]
  · cases hv
theorem hm_row {comp cc : ClassId} {kc : Class} (h3 : s.vm.classes[comp]? = some kc) (h4 : kc.kind = .array cc .double) (l1 : 64 ≤ e.platform.arrayLengthLimit) (l2 : 512 ≤ e.platform.maxHeapBytes) (h6 : s.heap.size < e.platform.maxCells) (h7 : s.slotsUsed + 64 ≤ e.platform.maxSlots) {Q : Addr → Pre} (kk : ∀ acts', Q s.heap.size d acts' (s.pushCell (hm_i comp))) : wp (multianewarray.make comp [nI 64]) Q E e d acts s := by
  have n0 : ¬ nI 64 < 0 := by decide
  have c0 : (nI 64).toNatClampNeg = 64 := nI_clamp (by decide)
  rw [multianewarray.make]
  simp only [wp_bind', W.ite, n0, if_false, wp_pure', W.theClass, h3, h4, Option.some.injEq, exists_eq_left', c0]
  exact hm_new h3 h4 l1 l2 rfl h6 h7 kk
theorem hm_make {c comp cc : ClassId} {k kc : Class} (h1 : s.vm.classes[c]? = some k) (h2 : k.kind = .array comp (.array .double)) (h3 : s.vm.classes[comp]? = some kc) (h4 : kc.kind = .array cc .double) (l1 : 64 ≤ e.platform.arrayLengthLimit) (l2 : 512 ≤ e.platform.maxHeapBytes) (l3 : s.heap.size + 3 ≤ e.platform.maxCells) (l4 : s.slotsUsed + 130 ≤ e.platform.maxSlots) {Q : Addr → Pre}
    (kk : ∀ d' acts', Q s.heap.size d' acts' (hm_2 s c comp)) : wp (multianewarray.make c [nI 2, nI 64]) Q E e d acts s := by
  have n0 : ¬ nI 2 < 0 := by decide
  have n1 : ¬ nI 64 < 0 := by decide
  have c0 : (nI 2).toNatClampNeg = 2 := nI_clamp (by decide)
  have fr : ∀ a : Addr, fits (.array .double) (.ref a) = true := fun _ => rfl
  rw [multianewarray.make]
  simp only [wp_bind', W.ite, n0, if_false, wp_pure', W.theClass, h1, h2, Option.some.injEq, exists_eq_left', c0]
  refine hm_new h1 h2 (by omega) (by show 2 * 4 ≤ _; omega) rfl (by omega) (by omega) (fun acts1 => ?_)
  have hf : ([nI 64].find? (· < 0)) = none := by simp [n1]
  simp only [hf]
  rw [ite_self, wp_bind', Std.Legacy.Range.forIn_eq_forIn_range']
  have hr : List.range' (0 : Nat) (([:2] : Std.Legacy.Range).size) 1 = [0, 1] := by decide
  show wp (forIn (List.range' 0 _ 1) PUnit.unit _) _ E e d _ _
  rw [hr]
  simp only [List.forIn_cons, List.forIn_nil, wp_bind']
  refine hm_row (s := s.pushCell (hm_o c)) h3 h4 l1 l2 (by show (s.heap.push _).size < _; simp; omega) (by show s.slotsUsed + (hm_o c).slots.size + 64 ≤ _; simp [hm_o]; omega) (fun acts2 => ?_)
  have hz : (s.pushCell (hm_o c)).heap.size = s.heap.size + 1 := by show (s.heap.push _).size = _; simp
  have ho : ((s.pushCell (hm_o c)).pushCell (hm_i comp)).heap[s.heap.size]? = some (hm_o c) := by
    show ((s.heap.push _).push _)[s.heap.size]? = _
    rw [Array.getElem?_push, if_neg (by simp), Array.getElem?_push_size]
  rw [hz]
  simp only [wp_bind', W.writeLoc, wp_pure']
  refine ⟨hm_o c, ho, (fun h => by cases h), (by show 0 < (Array.replicate 2 Value.null).size; simp), ?_, ?_⟩
  · show State.fitsSlot _ c .none 0 _ = true
    have h1' : ((s.pushCell (hm_o c)).pushCell (hm_i comp)).vm.classes[c]? = some k := h1
    simp [State.fitsSlot, State.slotType?, h1, h2, fr]
  have e1 : ((s.pushCell (hm_o c)).pushCell (hm_i comp)).setCell s.heap.size ((hm_o c).setSlot 0 (.ref (s.heap.size + 1))) = hm_1 s c comp := rfl
  rw [e1]
  have z1 := hm_z1 s c comp
  have g1 : (hm_1 s c comp).vm.classes[c]? = some k := h1
  have g3 : (hm_1 s c comp).vm.classes[comp]? = some kc := h3
  have u1 : (hm_1 s c comp).slotsUsed = s.slotsUsed + 66 := by
    show s.slotsUsed + (hm_o c).slots.size + (hm_i comp).slots.size = _
    simp [hm_o, hm_i]
  refine hm_row (s := hm_1 s c comp) g3 h4 l1 l2 (by omega) (by omega) (fun acts3 => ?_)
  have ho2 : ((hm_1 s c comp).pushCell (hm_i comp)).heap[s.heap.size]? = some ((hm_o c).setSlot 0 (.ref (s.heap.size + 1))) := by
    show ((hm_1 s c comp).heap.push _)[s.heap.size]? = _
    rw [Array.getElem?_push, if_neg (by omega)]
    exact hm_e1 s c comp
  rw [z1]
  refine ⟨_, ho2, (fun h => by cases h), (by show 1 < ((Array.replicate 2 Value.null).setIfInBounds 0 _).size; simp), ?_, ?_⟩
  · show State.fitsSlot _ c .none 1 _ = true
    have h1' : ((hm_1 s c comp).pushCell (hm_i comp)).vm.classes[c]? = some k := h1
    simp [State.fitsSlot, State.slotType?, g1, h2, fr]
  exact kk _ _
end HM
theorem hm_t (U : State) (f : JFrame) (c k : ClassId) : hm_2 (U.setTop f) c k = (hm_2 U c k).setTop f := by
  simp only [hm_2, hm_1, State.heap_setTop, State.pushCell_setTop, State.setCell_setTop]
section HMW
variable {p : Program} {l : Launch} {e : Env} {R : Room} {s : State} {m : MethodId} {args : Array Value} {below : List Frame} {meth : Method} {c : Code} {H : Heap} {locs : List Loc} {cells slots : Nat} {Q : State → Prop}
variable {cc : ByteArray} {pc : Nat} {ls : Array Slot} {rest : List Value} {Z : hw_Z} {M : hw_M} {a : Nat}
theorem hw_new2 (hexec : p.tables.exec = Jvm.exec) (hb : c.code = cc) {own : String} {index : Nat} (hts : ∀ w ∈ hw_ws, w.before args s = true) (hown : s.vm.findClass own = some m.cls) (hk : hw_kk Z s) (hI : hw_iv Z s M H locs) (hcl : Cond.classLink own index ("[" ++ (FieldType.array .double).toString) ∈ hw_ws) (hcells : cells + 3 ≤ R.cells) (hslots : slots + 130 ≤ R.slots) (hdg : decode cc pc = .ok (.multianewarray index 2, 4))
    (kk : ∀ (q q1 q2 : Nat) (H1 : Heap) (locs1 : List Loc) (f : Nat → Option Nat), M q = none → M q1 = none → M q2 = none → q ≠ q1 → q ≠ q2 → q1 ≠ q2 → hw_iv Z s (va_up (va_up (va_up M q2 (hw_ad Z 64 (fun _ => 0))) q1 (hw_ad Z 64 (fun _ => 0))) q (hw_ar Z 9 2 f)) H1 locs1 → W p l e R s m args below meth c H1 locs1 (cells + 3) (slots + 130) Q (F0 m (pc + 4) ls (.ref q :: rest))) : W p l e R s m args below meth c H locs cells slots Q (F0 m pc ls (.int (nI 64) :: .int (nI 2) :: rest)) := by
  have h9 : (hw_tys Z)[9]? = some (Z.2.1 9, .array .double) := rfl
  have h2 : (hw_tys Z)[2]? = some (Z.2.1 2, .double) := rfl
  have hfr : s.vm.findClass (FieldType.array .double).toString = some (Z.2.1 2) := (hk.1.2 2 _ h2).2
  have hfo : s.vm.findClass ("[" ++ (FieldType.array .double).toString) = some (Z.2.1 9) := (hk.1.2 9 _ h9).2
  obtain ⟨kA, k1, k2⟩ := hw_comp (t1 := 2) hk (t := .double) (by decide) h9 hfr
  obtain ⟨-, kC, k3, cc2, k4⟩ := (hk.1.2 2 _ h2).1 0 (fun _ => .null)
  intro T hT X
  subst hT
  subst hb
  have hpl : e.platform.magicAccessors = ({} : Platform).magicAccessors := by rw [X.admits.platform]
  obtain ⟨c0, f0, hcl0⟩ := Cond.classLink_spec hown (hts _ hcl) e.platform hpl
  have ec : c0 = Z.2.1 9 := Option.some.inj (f0.symm.trans hfo)
  subst ec
  obtain ⟨hg1, hw1, hr1⟩ := State.classEntry (e := e) X.warmed hcl0
  generalize T.vm.noted m.cls index (.cls (Z.2.1 9)) = v1 at hg1 hw1 hr1
  have hal : s.vm.Alike v1 := hw1.alike
  obtain ⟨kA', a1, a2⟩ := hal.2.2 _ _ k1
  obtain ⟨kC', b1, b2⟩ := hal.2.2 _ _ k3
  have X1 := X.noted hw1
  have X2 := X1.pushed (hm_o (Z.2.1 9))
  have X3 := X2.pushed (hm_i (Z.2.1 2))
  have zo : (hm_o (Z.2.1 9)).slots.size = 2 := by simp [hm_o]
  have zi : (hm_i (Z.2.1 2)).slots.size = 64 := by simp [hm_i]
  have hc0 : (((T.setVm v1).pushCell (hm_o (Z.2.1 9))).pushCell (hm_i (Z.2.1 2))).heap[T.heap.size]? = some (hm_o (Z.2.1 9)) := by
    show ((T.heap.push _).push _)[T.heap.size]? = _
    rw [Array.getElem?_push, if_neg (by simp), Array.getElem?_push_size]
  have X4 := X3.stored hc0 0 (.ref (T.heap.size + 1))
  have X5 := X4.pushed (hm_i (Z.2.1 2))
  have z1 := hm_z1 (T.setVm v1) (Z.2.1 9) (Z.2.1 2)
  have hc1 : ((hm_1 (T.setVm v1) (Z.2.1 9) (Z.2.1 2)).pushCell (hm_i (Z.2.1 2))).heap[T.heap.size]? = some ((hm_o (Z.2.1 9)).setSlot 0 (.ref (T.heap.size + 1))) := by
    show ((hm_1 (T.setVm v1) (Z.2.1 9) (Z.2.1 2)).heap.push _)[T.heap.size]? = _
    rw [Array.getElem?_push, if_neg (by rw [z1]; show ¬ T.heap.size = T.heap.size + 2; omega)]
    exact hm_e1 (T.setVm v1) (Z.2.1 9) (Z.2.1 2)
  have X6 := X5.stored hc1 1 (.ref (T.heap.size + 2))
  rw [zo, zi, show cells + 1 + 1 + 1 = cells + 3 by omega, show slots + 2 + 64 + 64 = slots + 130 by omega] at X6
  have hle : Z.2.2.1 ≤ T.heap.size := Nat.le_trans hI.2.2 hI.2.1.1
  have hz2 : (hm_2 (T.setVm v1) (Z.2.1 9) (Z.2.1 2)).heap.size = T.heap.size + 3 := hm_z2 _ _ _
  have ho2 : ∀ q : Nat, q < T.heap.size → (hm_2 (T.setVm v1) (Z.2.1 9) (Z.2.1 2)).heap[q]? = T.heap[q]? := fun q hq => hm_o2 (T.setVm v1) _ _ hq
  have he2 : (hm_2 (T.setVm v1) (Z.2.1 9) (Z.2.1 2)).heap[T.heap.size]? = some (vp_cell (Z.2.1 9) (2, .inr (.inr (.inr (.inr (va_up (va_up (fun _ => none) 0 (some (T.heap.size + 1))) 1 (some (T.heap.size + 2)))))))) := by
    refine (hm_e2 (T.setVm v1) (Z.2.1 9) (Z.2.1 2)).trans ?_
    rw [vp_cell_q]
    show some (((hm_o (Z.2.1 9)).setSlot 0 (.ref (T.heap.size + 1))).setSlot 1 (.ref (T.heap.size + 2))) = _
    have e0 : hm_o (Z.2.1 9) = arrV (Z.2.1 9) 2 (fun _ => .null) := arrV_new _ _ _
    rw [e0, arrV_store, arrV_store]
    refine congrArg (fun z => some (arrV (Z.2.1 9) 2 z)) (funext fun j => ?_)
    by_cases h1 : j = 1
    · subst h1; simp [updV, va_up, va_rf]
    · by_cases h0 : j = 0
      · subst h0; simp [updV, va_up, va_rf]
      · simp [updV, va_up, va_rf, h0, h1]
  have hi2 : hm_i (Z.2.1 2) = vp_cell (Z.2.1 2) (64, .inr (.inr (.inr (.inl (fun _ => 0))))) := by
    rw [vp_cell_d]
    exact arrV_new _ _ _
  have hb2 := hm_b2 (T.setVm v1) (Z.2.1 9) (Z.2.1 2)
  rw [hi2] at hb2
  have nn : ∀ k : Nat, M (T.heap.size + k) = none := fun k => by
    cases hm : M (T.heap.size + k) with
    | none => rfl
    | some x => exact absurd (hI.1.lt hm) (by omega)
  obtain ⟨t9, st9, q9⟩ := kk T.heap.size (T.heap.size + 1) (T.heap.size + 2) (hm_2 (T.setVm v1) (Z.2.1 9) (Z.2.1 2)).heap _ _ (nn 0) (nn 1) (nn 2) (by omega) (by omega) (by omega) ⟨fun x y hx => by
      by_cases g0 : x = T.heap.size
      · subst g0
        rw [va_up_self] at hx
        cases hx
        exact ⟨hle, he2⟩
      · rw [va_up_ne _ _ g0] at hx
        by_cases g1 : x = T.heap.size + 1
        · subst g1
          rw [va_up_self] at hx
          cases hx
          exact ⟨by omega, hb2.1⟩
        · rw [va_up_ne _ _ g1] at hx
          by_cases g2 : x = T.heap.size + 2
          · subst g2
            rw [va_up_self] at hx
            cases hx
            exact ⟨by omega, hb2.2⟩
          · rw [va_up_ne _ _ g2] at hx
            exact ⟨(hI.1 x y hx).1, (hI.1 x y hx).2.kept (ho2 x (hI.1.lt hx))⟩, ⟨by rw [hz2]; have := hI.2.1.1; omega, fun q g1 g2 => (ho2 q (Nat.lt_of_lt_of_le g1 hI.2.1.1)).trans (hI.2.1.2.1 q g1 g2), fun q hq => by
        rcases List.mem_append.mp hq with h | h
        · rcases List.mem_append.mp h with h | h
          · exact hI.2.1.2.2 q h
          · rcases List.mem_singleton.mp h with rfl; exact hle
        · rcases List.mem_singleton.mp h with rfl; exact hle⟩, hI.2.2⟩ (hm_2 (T.setVm v1) (Z.2.1 9) (Z.2.1 2)) rfl X6
  refine ⟨t9, ?_, q9⟩
  obtain ⟨r1, r2⟩ := X.roomAbove hcells hslots
  obtain ⟨g, hg⟩ : ∃ g : JFrame, g = F0 m pc ls (.int (nI 64) :: .int (nI 2) :: rest) := ⟨_, rfl⟩
  have hgm : g.method = m := by rw [hg]
  have hgs : g.stack = .int (nI 64) :: .int (nI 2) :: rest := by rw [hg]
  have hgd : decode c.code g.pc = .ok (.multianewarray index 2, 4) := by rw [hg]; exact hdg
  have hgt : F0 m (pc + 4) ls (.ref T.heap.size :: rest) = { g with pc := g.pc + 4, stack := .ref T.heap.size :: rest } := by rw [hg]
  rw [hgt] at st9
  rw [← hg]
  clear hgt hdg
  subst hgm
  jvm_step X.here [hexec, hgd]
  simp only [multianewarray.sem, wp_bind', W.resolveClassAt_links (State.method?_setTop g X.here.top) hg1]
  rw [W.popN, if_neg (by decide)]
  refine ⟨g, State.topJava?_setTop' (s := T.setVm v1) g X.here.top, [.int (nI 2), .int (nI 64)], rest, rfl, hgs, ?_⟩
  simp only [List.mapM_cons, List.mapM_nil, wp_bind', wp_pure']
  have la : (64 : Nat) ≤ e.platform.arrayLengthLimit := by rw [Launch.admits_arrayLengthLimit X.admits]; decide
  have lb : (512 : Nat) ≤ e.platform.maxHeapBytes := by rw [Launch.admits_maxHeapBytes X.admits]; decide
  have eS : ((T.setTop g).setVm v1).setTop { g with stack := rest } = (T.setVm v1).setTop { g with stack := rest } := by
    show ((T.setVm v1).setTop g).setTop _ = _
    rw [State.setTop_setTop]
  rw [eS]
  refine hm_make (s := (T.setVm v1).setTop { g with stack := rest }) (comp := Z.2.1 2) (cc := cc2) (k := kA') (kc := kC') a1 (by rw [a2]; exact k2) b1 (by rw [b2]; exact k4) la lb r1 r2 (fun d' acts' => ?_)
  rw [hm_t]
  simp only [wp_bind', W.mark, W.pushRef, State.topJava?_setTop' _ X6.here.top, Option.some.injEq, exists_eq_left', State.setTop_setTop, State.heap_setTop]
  refine ⟨_, State.topJava?_setTop' _ X6.here.top, fun acts => ?_⟩
  simp [jvm, X6.here.top]
  exact st9
end HMW
