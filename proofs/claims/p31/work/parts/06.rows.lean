/-! The rows of the kit over a world hw_iv: reads, writes, new cells, calls, ends. A world as a list: its cells in the order of their addresses. -/
def hw_L (M : hw_M) (n : Nat) : va_W := (List.range n).filterMap (fun a => (M a).map (fun e => (a, e)))
theorem hw_Lmem {M : hw_M} {n : Nat} {q : Nat × va_E} : q ∈ hw_L M n ↔ q.1 < n ∧ M q.1 = some q.2 := by
  unfold hw_L
  rw [List.mem_filterMap]
  constructor
  · rintro ⟨a, h1, h2⟩
    rw [Option.map_eq_some_iff] at h2
    obtain ⟨e, h3, h4⟩ := h2
    subst h4
    exact ⟨List.mem_range.mp h1, h3⟩
  · rintro ⟨h1, h2⟩
    exact ⟨q.1, List.mem_range.mpr h1, by rw [h2]; rfl⟩
theorem hw_Lfst (M : hw_M) (n : Nat) : (hw_L M n).Pairwise (fun p q => p.1 ≠ q.1) := by
  unfold hw_L
  rw [List.pairwise_filterMap]
  refine List.Pairwise.imp ?_ (List.nodup_range (n := n))
  intro a b hab p hp q hq e
  rw [Option.map_eq_some_iff] at hp hq
  obtain ⟨x, -, rfl⟩ := hp
  obtain ⟨y, -, rfl⟩ := hq
  exact hab e
theorem hw_Lget {Z : hw_Z} {M : hw_M} {H : Heap} (h : hw_wd Z M H) {a : Nat} {e : va_E} (he : M a = some e) : ∃ k : Nat, (hw_L M H.size)[k]? = some (a, e) := List.getElem?_of_mem (hw_Lmem.mpr ⟨h.lt he, he⟩)
theorem hw_LP {Z : hw_Z} {M : hw_M} {H : Heap} (h : hw_wd Z M H) : va_P Z.1 vwCl (hw_L M H.size) H := fun _ q hq => (h q.1 q.2 (hw_Lmem.mp (List.mem_of_getElem? hq)).2).2
theorem hw_LD {Z : hw_Z} {M : hw_M} {H : Heap} (h : hw_wd Z M H) : va_D (hw_A Z) (hw_L M H.size) := by
  refine ⟨fun i j p q hi hj hpq => ?_, fun _ q hq => (h q.1 q.2 (hw_Lmem.mp (List.mem_of_getElem? hq)).2).1⟩
  have hp := List.pairwise_iff_getElem.mp (hw_Lfst M H.size)
  obtain ⟨hi', ei⟩ := List.getElem?_eq_some_iff.mp hi
  obtain ⟨hj', ej⟩ := List.getElem?_eq_some_iff.mp hj
  rcases Nat.lt_trichotomy i j with h1 | h1 | h1
  · exact absurd (by rw [ei, ej]; exact hpq) (hp i j hi' hj' h1)
  · exact h1
  · exact absurd (by rw [ei, ej]; exact hpq.symm) (hp j i hj' hi' h1)
theorem hw_Lset {Z : hw_Z} {M : hw_M} {H H1 : Heap} (h : hw_wd Z M H) {a k : Nat} {e0 e : va_E} (hk : (hw_L M H.size)[k]? = some (a, e0)) (hP : va_P Z.1 vwCl ((hw_L M H.size).set k (a, e)) H1) : hw_wd Z (va_up M a (some e)) H1 := by
  have hl := (List.getElem?_eq_some_iff.mp hk).1
  have hb := (h a e0 (hw_Lmem.mp (List.mem_of_getElem? hk)).2).1
  intro b x hx
  by_cases hba : b = a
  · subst hba
    rw [va_up_self] at hx
    cases hx
    exact ⟨hb, hP k _ (List.getElem?_set_self hl)⟩
  · rw [va_up_ne _ _ hba] at hx
    refine ⟨(h b x hx).1, ?_⟩
    obtain ⟨j, hj⟩ := hw_Lget h hx
    refine hP j _ ?_
    rw [List.getElem?_set_ne (fun q => hba (by
      rw [q, hj] at hk
      have := Option.some.inj hk
      exact congrArg Prod.fst this))]
    exact hj
theorem hw_Lpush {Z : hw_Z} {M : hw_M} {H H1 : Heap} (h : hw_wd Z M H) {q : Nat} {e : va_E} (hP : va_P Z.1 vwCl (hw_L M H.size ++ [(q, e)]) H1) (hD : va_D (hw_A Z) (hw_L M H.size ++ [(q, e)])) : hw_wd Z (va_up M q (some e)) H1 ∧ M q = none := by
  have hlast : (hw_L M H.size ++ [(q, e)])[(hw_L M H.size).length]? = some (q, e) := by rw [List.getElem?_append_right (Nat.le_refl _), Nat.sub_self]; rfl
  have hold : ∀ (b : Nat) (x : va_E), M b = some x → ∃ j, j < (hw_L M H.size).length ∧ (hw_L M H.size ++ [(q, e)])[j]? = some (b, x) := by
    intro b x hx
    obtain ⟨j, hj⟩ := hw_Lget h hx
    have hl := (List.getElem?_eq_some_iff.mp hj).1
    exact ⟨j, hl, by rw [List.getElem?_append_left hl]; exact hj⟩
  have hn : M q = none := by
    cases hq : M q with
    | none => rfl
    | some x =>
      obtain ⟨j, hl, hj⟩ := hold q x hq
      have := hD.1 j _ _ _ hj hlast rfl
      omega
  refine ⟨fun b x hx => ?_, hn⟩
  by_cases hb : b = q
  · subst hb
    rw [va_up_self] at hx
    cases hx
    exact ⟨hD.2 _ _ hlast, hP _ _ hlast⟩
  · rw [va_up_ne _ _ hb] at hx
    obtain ⟨j, -, hj⟩ := hold b x hx
    exact ⟨(h b x hx).1, hP j _ hj⟩
/-- a field of a class, as an instruction of the class own names it -/
def hw_FD (own : String) (index ci k : Nat) : Prop := ∃ (C : String) (T : u_T) (N : Nat) (ref : String), vwCl[ci]? = some (C, T, N) ∧ k < N ∧ (∀ w ∈ u_ws C T N, w ∈ hw_ws) ∧ Cond.fieldLink own index ref (T k).2.1 (T k).2.2.1 ∈ hw_ws ∧ (ref = (T k).1 ∨ Cond.sameField ref (T k).1 (T k).2.1 (T k).2.2.1 ∈ hw_ws)
def hw_FP (own : String) (index ci k : Nat) (ty : FieldType) (fin : Bool) : Prop := ∃ (C : String) (T : u_T) (N : Nat) (ref : String) (ty0 : Nat → FieldType), vwCl[ci]? = some (C, T, N) ∧ k < N ∧ (∀ w ∈ u_ws C T N, w ∈ hw_ws) ∧ Cond.fieldLink own index ref (T k).2.1 (T k).2.2.1 ∈ hw_ws ∧ (ref = (T k).1 ∨ Cond.sameField ref (T k).1 (T k).2.1 (T k).2.2.1 ∈ hw_ws) ∧
  (∀ k, k < N → parseFieldDescriptor (T k).2.2.1 = some (ty0 k)) ∧ (∀ a, a < N → ∀ b, b < N → a ≠ b → (T a).2.1 ≠ (T b).2.1) ∧ (T k).2.2.2 = fin ∧ (fin = true → (T k).1 = own) ∧ parseFieldDescriptor (T k).2.2.1 = some ty
/-- a class whose objects are made -/
def hw_FN (own : String) (index ci : Nat) (N : Nat) (fs : List Value) : Prop := ∃ (C : String) (T : u_T) (ty : Nat → FieldType), vwCl[ci]? = some (C, T, N) ∧ (∀ w ∈ u_ws C T N, w ∈ hw_ws) ∧ (∀ k, k < N → parseFieldDescriptor (T k).2.2.1 = some (ty k)) ∧ Cond.classLink own index C ∈ hw_ws ∧ Cond.instantiable C N ∈ hw_ws ∧ Cond.initialized C ∈ hw_ws ∧ (∀ j, j < N → defaultValue (ty j) = vp_V fs j)
theorem hw_ne {M : hw_M} {a b : Nat} {e1 e2 : Option va_E} (h1 : M a = e1) (h2 : M b = e2) (h : e1 ≠ e2) : a ≠ b := fun q => h (by rw [← h1, ← h2, q])
theorem hw_up {M : hw_M} {a b : Nat} {x e : Option va_E} (h : M b = e) (hne : b ≠ a) : va_up M a x b = e := (va_up_ne _ _ hne).trans h
theorem hw_us (M : hw_M) (a : Nat) (x : Option va_E) : va_up M a x a = x := va_up_self _ _ _
theorem hw_nn {M : hw_M} {a q : Nat} {e : va_E} (h : M a = some e) (hq : M q = none) : a ≠ q := fun z => by rw [z, hq] at h; cases h
theorem hw_same {C : String} {s : State} {args : Array Value} {T : u_T} {k : Nat} {ref : String} (hts : ∀ w ∈ hw_ws, w.before args s = true) (h5 : ref = (T k).1 ∨ Cond.sameField ref (T k).1 (T k).2.1 (T k).2.2.1 ∈ hw_ws) : ∀ x, s.fieldFound? (T k).1 (T k).2.1 (T k).2.2.1 = some x → s.fieldFound? ref (T k).2.1 (T k).2.2.1 = some x := by
  intro x hx
  rcases h5 with h | h
  · rw [h]; exact hx
  · exact u_same (hts _ h) x hx
section HWR
variable {p : Program} {l : Launch} {e : Env} {R : Room} {s : State} {m : MethodId} {args : Array Value} {below : List Frame} {meth : Method} {c : Code} {H : Heap} {locs : List Loc} {cells slots : Nat} {Q : State → Prop}
variable {cc : ByteArray} {pc : Nat} {ls : Array Slot} {rest : List Value} {Z : hw_Z} {M : hw_M} {a : Nat}
theorem hw_iv.hA (hI : hw_iv Z s M H locs) : ∀ q : Nat, s.heap.size ≤ q → hw_A Z q := fun _ h => Nat.le_trans hI.2.2 h
theorem hw_iv.set {H1 : Heap} {locs1 : List Loc} (hI : hw_iv Z s M H locs) {k : Nat} {e0 e : va_E} (hk : (hw_L M H.size)[k]? = some (a, e0)) (hP : va_P Z.1 vwCl ((hw_L M H.size).set k (a, e)) H1) (hS : va_S (hw_A Z) s.heap H1 locs1) : hw_iv Z s (va_up M a (some e)) H1 locs1 := ⟨hw_Lset hI.1 hk hP, hS, hI.2.2⟩
theorem hw_get (hexec : p.tables.exec = Jvm.exec) (hb : c.code = cc) {own : String} {index ci k : Nat} (hts : ∀ w ∈ hw_ws, w.before args s = true) (hown : s.vm.findClass own = some m.cls) (hk : hw_kk Z s) (hI : hw_iv Z s M H locs) (hfd : hw_FD own index ci k) {fs : List Value} {v : Value} (he : M a = hw_ob ci fs) (hv : fs[k]? = some v) (hdg : decode cc pc = .ok (.getfield index, 3))
    (kk : W p l e R s m args below meth c H locs cells slots Q (F0 m (pc + 3) ls (v :: rest))) : W p l e R s m args below meth c H locs cells slots Q (F0 m pc ls (.ref a :: rest)) := by
  obtain ⟨C, T, N, ref, h1, h2, h3, h4, h5⟩ := hfd
  exact va_get hexec hb hts h3 hown hk.1 (hI.1.P1 he) 0 rfl h1 k h2 (hts _ h4) (hw_same (C := C) hts h5) hv hdg kk
theorem hw_put (hexec : p.tables.exec = Jvm.exec) (hb : c.code = cc) {own : String} {index ci k : Nat} {ty : FieldType} (hts : ∀ w ∈ hw_ws, w.before args s = true) (hown : s.vm.findClass own = some m.cls) (hk : hw_kk Z s) (hI : hw_iv Z s M H locs) (hfp : hw_FP own index ci k ty false) {fs fs' : List Value} {v : Value} (he : M a = hw_ob ci fs) (hl : k < fs.length) (hs : fs.set k v = fs') (hn : narrow ty v = v) (hfit : fits ty v = true) (hdg : decode cc pc = .ok (.putfield index, 3))
    (kk : ∀ (H1 : Heap) (locs1 : List Loc), hw_iv Z s (va_up M a (hw_ob ci fs')) H1 locs1 → W p l e R s m args below meth c H1 locs1 cells slots Q (F0 m (pc + 3) ls rest)) : W p l e R s m args below meth c H locs cells slots Q (F0 m pc ls (v :: .ref a :: rest)) := by
  obtain ⟨C, T, N, ref, ty0, h1, h2, h3, h4, h5, h6, h7, h8, -, h10⟩ := hfp
  subst hs
  obtain ⟨q0, hq0⟩ := hw_Lget hI.1 he
  exact va_put hexec hb hts h3 ty0 h6 h7 hown hk.1 (hw_LP hI.1) (hw_LD hI.1) hI.2.1 q0 hq0 h1 k h2 (hts _ h4) (hw_same (C := C) hts h5) h8 h10 hn hfit hl hdg (fun H1 locs1 g1 _ g3 => kk H1 locs1 (hI.set hq0 g1 g3))
theorem hw_putF (hexec : p.tables.exec = Jvm.exec) (hb : c.code = cc) {own : String} {index ci k : Nat} {ty : FieldType} (hts : ∀ w ∈ hw_ws, w.before args s = true) (hown : s.vm.findClass own = some m.cls) (hin2 : meth.name = "<init>") (hk : hw_kk Z s) (hI : hw_iv Z s M H locs) (hfp : hw_FP own index ci k ty true) {fs fs' : List Value} {v : Value} (he : M a = hw_ob ci fs) (hl : k < fs.length) (hs : fs.set k v = fs') (hn : narrow ty v = v) (hfit : fits ty v = true) (hdg : decode cc pc = .ok (.putfield index, 3))
    (kk : ∀ (H1 : Heap) (locs1 : List Loc), hw_iv Z s (va_up M a (hw_ob ci fs')) H1 locs1 → W p l e R s m args below meth c H1 locs1 cells slots Q (F0 m (pc + 3) ls rest)) : W p l e R s m args below meth c H locs cells slots Q (F0 m pc ls (v :: .ref a :: rest)) := by
  obtain ⟨C, T, N, ref, ty0, h1, h2, h3, h4, h5, h6, h7, h8, h9, h10⟩ := hfp
  subst hs
  obtain ⟨q0, hq0⟩ := hw_Lget hI.1 he
  exact va_putF hexec hb hts h3 ty0 h6 h7 hown hk.1 (hw_LP hI.1) (hw_LD hI.1) hI.2.1 q0 hq0 h1 k h2 (hts _ h4) (hw_same (C := C) hts h5) h8 hin2 (h9 rfl) h10 hn hfit hl hdg (fun H1 locs1 g1 _ g3 => kk H1 locs1 (hI.set hq0 g1 g3))
-- arrays: an index is nI j with j in range
theorem hw_in {i : Int32} {j n : Nat} (hi : i = nI j) (hj : j < n) (hn : n < 2 ^ 31) : vp_in i n := by rw [hi]; exact vp_in_nI hj hn
theorem hw_cl {i : Int32} {j n : Nat} (hi : i = nI j) (hj : j < n) (hn : n < 2 ^ 31) : i.toNatClampNeg = j := by rw [hi]; exact nI_clamp (by omega)
theorem hw_iald (hexec : p.tables.exec = Jvm.exec) (hb : c.code = cc) (hk : hw_kk Z s) (hI : hw_iv Z s M H locs) {n : Nat} {f : Nat → Int32} (he : M a = hw_ai Z n f) {i : Int32} {j : Nat} (hi : i = nI j) (hj : j < n) (hn : n < 2 ^ 31) (hdg : decode cc pc = .ok (.iaload, 1))
    (kk : W p l e R s m args below meth c H locs cells slots Q (F0 m (pc + 1) ls (.int (f j) :: rest))) : W p l e R s m args below meth c H locs cells slots Q (F0 m pc ls (.int i :: .ref a :: rest)) := by
  refine va_iald hexec hb hk.1 (hI.1.P1 he) 0 0 rfl rfl (hw_in hi hj hn) hdg ?_
  rw [hw_cl hi hj hn]
  exact kk
theorem hw_lald (hexec : p.tables.exec = Jvm.exec) (hb : c.code = cc) (hk : hw_kk Z s) (hI : hw_iv Z s M H locs) {n : Nat} {f : Nat → Int64} (he : M a = hw_al Z n f) {i : Int32} {j : Nat} (hi : i = nI j) (hj : j < n) (hn : n < 2 ^ 31) (hdg : decode cc pc = .ok (.laload, 1))
    (kk : W p l e R s m args below meth c H locs cells slots Q (F0 m (pc + 1) ls (.long (f j) :: rest))) : W p l e R s m args below meth c H locs cells slots Q (F0 m pc ls (.int i :: .ref a :: rest)) := by
  refine va_lald hexec hb hk.1 (hI.1.P1 he) 0 1 rfl rfl (hw_in hi hj hn) hdg ?_
  rw [hw_cl hi hj hn]
  exact kk
theorem hw_dald (hexec : p.tables.exec = Jvm.exec) (hb : c.code = cc) (hk : hw_kk Z s) (hI : hw_iv Z s M H locs) {n : Nat} {f : Nat → UInt64} (he : M a = hw_ad Z n f) {i : Int32} {j : Nat} (hi : i = nI j) (hj : j < n) (hn : n < 2 ^ 31) (hdg : decode cc pc = .ok (.daload, 1))
    (kk : W p l e R s m args below meth c H locs cells slots Q (F0 m (pc + 1) ls (.double (f j) :: rest))) : W p l e R s m args below meth c H locs cells slots Q (F0 m pc ls (.int i :: .ref a :: rest)) := by
  refine va_dald hexec hb hk.1 (hI.1.P1 he) 0 2 rfl rfl (hw_in hi hj hn) hdg ?_
  rw [hw_cl hi hj hn]
  exact kk
theorem hw_aald (hexec : p.tables.exec = Jvm.exec) (hb : c.code = cc) (hk : hw_kk Z s) (hI : hw_iv Z s M H locs) (t0 : Nat) {C : String} {n : Nat} {f : Nat → Option Nat} {v : Value} (he : M a = hw_ar Z t0 n f) (ht : (hw_tys Z)[t0]? = some (Z.2.1 t0, .object C)) {i : Int32} {j : Nat} (hi : i = nI j) (hj : j < n) (hn : n < 2 ^ 31) (hv : va_rf (f j) = v) (hdg : decode cc pc = .ok (.aaload, 1))
    (kk : W p l e R s m args below meth c H locs cells slots Q (F0 m (pc + 1) ls (v :: rest))) : W p l e R s m args below meth c H locs cells slots Q (F0 m pc ls (.int i :: .ref a :: rest)) := by
  refine va_aldq hexec hb hk.1 (hI.1.P1 he) 0 t0 rfl ht (hw_in hi hj hn) hdg ?_
  rw [hw_cl hi hj hn, hv]
  exact kk
theorem hw_iast (hexec : p.tables.exec = Jvm.exec) (hb : c.code = cc) (hk : hw_kk Z s) (hI : hw_iv Z s M H locs) {n : Nat} {f : Nat → Int32} (he : M a = hw_ai Z n f) {i x : Int32} {j : Nat} (hi : i = nI j) (hj : j < n) (hn : n < 2 ^ 31) (hdg : decode cc pc = .ok (.iastore, 1))
    (kk : ∀ (H1 : Heap) (locs1 : List Loc), hw_iv Z s (va_up M a (hw_ai Z n (va_up f j x))) H1 locs1 → W p l e R s m args below meth c H1 locs1 cells slots Q (F0 m (pc + 1) ls rest)) : W p l e R s m args below meth c H locs cells slots Q (F0 m pc ls (.int x :: .int i :: .ref a :: rest)) := by
  obtain ⟨q0, hq0⟩ := hw_Lget hI.1 he
  refine va_iast hexec hb hk.1 (hw_LP hI.1) (hw_LD hI.1) hI.2.1 q0 0 hq0 rfl (hw_in hi hj hn) hdg (fun H1 locs1 g1 _ g3 => kk H1 locs1 (hI.set hq0 ?_ g3))
  rw [hw_cl hi hj hn] at g1
  exact g1
theorem hw_last (hexec : p.tables.exec = Jvm.exec) (hb : c.code = cc) (hk : hw_kk Z s) (hI : hw_iv Z s M H locs) {n : Nat} {f : Nat → Int64} (he : M a = hw_al Z n f) {i : Int32} {x : Int64} {j : Nat} (hi : i = nI j) (hj : j < n) (hn : n < 2 ^ 31) (hdg : decode cc pc = .ok (.lastore, 1))
    (kk : ∀ (H1 : Heap) (locs1 : List Loc), hw_iv Z s (va_up M a (hw_al Z n (va_up f j x))) H1 locs1 → W p l e R s m args below meth c H1 locs1 cells slots Q (F0 m (pc + 1) ls rest)) : W p l e R s m args below meth c H locs cells slots Q (F0 m pc ls (.long x :: .int i :: .ref a :: rest)) := by
  obtain ⟨q0, hq0⟩ := hw_Lget hI.1 he
  refine va_last hexec hb hk.1 (hw_LP hI.1) (hw_LD hI.1) hI.2.1 q0 1 hq0 rfl (hw_in hi hj hn) hdg (fun H1 locs1 g1 _ g3 => kk H1 locs1 (hI.set hq0 ?_ g3))
  rw [hw_cl hi hj hn] at g1
  exact g1
theorem hw_dast (hexec : p.tables.exec = Jvm.exec) (hb : c.code = cc) (hk : hw_kk Z s) (hI : hw_iv Z s M H locs) {n : Nat} {f : Nat → UInt64} (he : M a = hw_ad Z n f) {i : Int32} {x : UInt64} {j : Nat} (hi : i = nI j) (hj : j < n) (hn : n < 2 ^ 31) (hdg : decode cc pc = .ok (.dastore, 1))
    (kk : ∀ (H1 : Heap) (locs1 : List Loc), hw_iv Z s (va_up M a (hw_ad Z n (va_up f j x))) H1 locs1 → W p l e R s m args below meth c H1 locs1 cells slots Q (F0 m (pc + 1) ls rest)) : W p l e R s m args below meth c H locs cells slots Q (F0 m pc ls (.double x :: .int i :: .ref a :: rest)) := by
  obtain ⟨q0, hq0⟩ := hw_Lget hI.1 he
  refine va_dast hexec hb hk.1 (hw_LP hI.1) (hw_LD hI.1) hI.2.1 q0 2 hq0 rfl (hw_in hi hj hn) hdg (fun H1 locs1 g1 _ g3 => kk H1 locs1 (hI.set hq0 ?_ g3))
  rw [hw_cl hi hj hn] at g1
  exact g1
/-- an object into an array of its own class -/
theorem hw_aast (hexec : p.tables.exec = Jvm.exec) (hb : c.code = cc) (hk : hw_kk Z s) (hI : hw_iv Z s M H locs) (t0 : Nat) {r : vw_C} {ci n v : Nat} {vs : List Value} {f : Nat → Option Nat} (he : M a = hw_ar Z t0 n f) (ht : (hw_tys Z)[t0]? = some (Z.2.1 t0, .object r.1)) (hv : M v = hw_ob ci vs) (hc : vwCl[ci]? = some r) {i : Int32} {j : Nat} (hi : i = nI j) (hj : j < n) (hn : n < 2 ^ 31) (hdg : decode cc pc = .ok (.aastore, 1))
    (kk : ∀ (H1 : Heap) (locs1 : List Loc), hw_iv Z s (va_up M a (hw_ar Z t0 n (va_up f j (some v)))) H1 locs1 → W p l e R s m args below meth c H1 locs1 cells slots Q (F0 m (pc + 1) ls rest)) : W p l e R s m args below meth c H locs cells slots Q (F0 m pc ls (.ref v :: .int i :: .ref a :: rest)) := by
  obtain ⟨q0, hq0⟩ := hw_Lget hI.1 he
  obtain ⟨q1, hq1⟩ := hw_Lget hI.1 hv
  refine va_astq hexec hb hk.1 (hw_LP hI.1) (hw_LD hI.1) hI.2.1 q0 t0 q1 ci hq0 ht hq1 hc (hw_in hi hj hn) hdg (fun H1 locs1 g1 _ g3 => kk H1 locs1 (hI.set hq0 ?_ g3))
  rw [hw_cl hi hj hn] at g1
  exact g1
/-- an object into an array of a class above its own -/
theorem hw_aastO (hexec : p.tables.exec = Jvm.exec) (hb : c.code = cc) (hk : hw_kk Z s) (hI : hw_iv Z s M H locs) (t0 : Nat) {E : String} {r : vw_C} {ci n v : Nat} {vs : List Value} {f : Nat → Option Nat} (he : M a = hw_ar Z t0 n f) (ht : (hw_tys Z)[t0]? = some (Z.2.1 t0, .object E)) (hca : (r.1, E) ∈ hw_lC) (hv : M v = hw_ob ci vs) (hc : vwCl[ci]? = some r) {i : Int32} {j : Nat} (hi : i = nI j) (hj : j < n) (hn : n < 2 ^ 31) (hdg : decode cc pc = .ok (.aastore, 1))
    (kk : ∀ (H1 : Heap) (locs1 : List Loc), hw_iv Z s (va_up M a (hw_ar Z t0 n (va_up f j (some v)))) H1 locs1 → W p l e R s m args below meth c H1 locs1 cells slots Q (F0 m (pc + 1) ls rest)) : W p l e R s m args below meth c H locs cells slots Q (F0 m pc ls (.ref v :: .int i :: .ref a :: rest)) := by
  obtain ⟨q0, hq0⟩ := hw_Lget hI.1 he
  obtain ⟨q1, hq1⟩ := hw_Lget hI.1 hv
  refine va_astqO hexec hb hk.1 (hw_LP hI.1) (hw_LD hI.1) hI.2.1 q0 t0 q1 ci hq0 ht (hk.2.2.2.2.2.2.1 _ hca) hq1 hc (hw_in hi hj hn) hdg (fun H1 locs1 g1 _ g3 => kk H1 locs1 (hI.set hq0 ?_ g3))
  rw [hw_cl hi hj hn] at g1
  exact g1
theorem hw_aastN (hexec : p.tables.exec = Jvm.exec) (hb : c.code = cc) (hk : hw_kk Z s) (hI : hw_iv Z s M H locs) (t0 : Nat) {C : String} {n : Nat} {f : Nat → Option Nat} (he : M a = hw_ar Z t0 n f) (ht : (hw_tys Z)[t0]? = some (Z.2.1 t0, .object C)) {i : Int32} {j : Nat} (hi : i = nI j) (hj : j < n) (hn : n < 2 ^ 31) (hdg : decode cc pc = .ok (.aastore, 1))
    (kk : ∀ (H1 : Heap) (locs1 : List Loc), hw_iv Z s (va_up M a (hw_ar Z t0 n (va_up f j none))) H1 locs1 → W p l e R s m args below meth c H1 locs1 cells slots Q (F0 m (pc + 1) ls rest)) : W p l e R s m args below meth c H locs cells slots Q (F0 m pc ls (.null :: .int i :: .ref a :: rest)) := by
  obtain ⟨q0, hq0⟩ := hw_Lget hI.1 he
  refine va_astqN hexec hb hk.1 (hw_LP hI.1) (hw_LD hI.1) hI.2.1 q0 t0 hq0 ht (hw_in hi hj hn) hdg (fun H1 locs1 g1 _ g3 => kk H1 locs1 (hI.set hq0 ?_ g3))
  rw [hw_cl hi hj hn] at g1
  exact g1
theorem hw_alen (hexec : p.tables.exec = Jvm.exec) (hb : c.code = cc) (hk : hw_kk Z s) (hI : hw_iv Z s M H locs) (t0 : Nat) {x : vp_A} {ty : FieldType} (he : M a = some (.inl (Z.2.1 t0, x))) (ht : (hw_tys Z)[t0]? = some (Z.2.1 t0, ty)) {v : Int32} (hv : Int32.ofNat x.1 = v) (hdg : decode cc pc = .ok (.arraylength, 1))
    (kk : W p l e R s m args below meth c H locs cells slots Q (F0 m (pc + 1) ls (.int v :: rest))) : W p l e R s m args below meth c H locs cells slots Q (F0 m pc ls (.ref a :: rest)) := va_alen hexec hb hk.1 (hI.1.P1 he) 0 t0 rfl ht hv hdg kk
/-- a new object -/
theorem hw_new (hexec : p.tables.exec = Jvm.exec) (hb : c.code = cc) {own : String} {index ci N : Nat} {fs : List Value} (hts : ∀ w ∈ hw_ws, w.before args s = true) (hown : s.vm.findClass own = some m.cls) (hk : hw_kk Z s) (hI : hw_iv Z s M H locs) (hfn : hw_FN own index ci N fs) (hcells : cells + 1 ≤ R.cells) (hslots : slots + N ≤ R.slots) (hdg : decode cc pc = .ok (.new index, 3))
    (kk : ∀ (q : Nat) (H1 : Heap), M q = none → hw_iv Z s (va_up M q (hw_ob ci fs)) H1 locs → W p l e R s m args below meth c H1 locs (cells + 1) (slots + N) Q (F0 m (pc + 3) ls (.ref q :: rest))) : W p l e R s m args below meth c H locs cells slots Q (F0 m pc ls rest) := by
  obtain ⟨C, T, ty, h1, h2, h3, h4, h5, h6, h7⟩ := hfn
  refine va_new hexec hb hts h2 ty h3 hown (hts _ h4) (hts _ h5) (hts _ h6) hk.1 (hw_LP hI.1) (hw_LD hI.1) hI.2.1 hI.hA h1 h7 hcells hslots hdg (fun q H1 g1 g2 g3 => ?_)
  obtain ⟨w1, w2⟩ := hw_Lpush hI.1 g1 g2
  exact kk q H1 w2 ⟨w1, g3, hI.2.2⟩
/-- a new array of numbers -/
theorem hw_newa (hexec : p.tables.exec = Jvm.exec) (hb : c.code = cc) (hts : ∀ w ∈ hw_ws, w.before args s = true) (hk : hw_kk Z s) (hI : hw_iv Z s M H locs) {atype : ArrayType} (harr : Cond.arrayClass (newarray.typeOf atype) ∈ hw_ws) {ty : FieldType} (hty : newarray.typeOf atype = ty) (t0 : Nat) (ht : (hw_tys Z)[t0]? = some (Z.2.1 t0, ty)) (hnr : ∀ C, ty ≠ .object C) {n : Int32} {N' : Nat} {a0 : vp_A} (ha : ∀ cA : ClassId, vp_cell cA a0 = arrV cA N' (fun _ => defaultValue ty)) (hn : n = nI N') (hN : N' < 2 ^ 20) (hbytes : N' * componentBytes ty ≤ 536870912) (hcells : cells + 1 ≤ R.cells) (hslots : slots + N' ≤ R.slots) (hdg : decode cc pc = .ok (.newarray atype, 2))
    (kk : ∀ (q : Nat) (H1 : Heap), M q = none → hw_iv Z s (va_up M q (some (.inl (Z.2.1 t0, a0)))) H1 locs → W p l e R s m args below meth c H1 locs (cells + 1) (slots + N') Q (F0 m (pc + 2) ls (.ref q :: rest))) : W p l e R s m args below meth c H locs cells slots Q (F0 m pc ls (.int n :: rest)) := by
  refine va_newa hexec hb (hts _ harr) hty hk.1 (hw_LP hI.1) (hw_LD hI.1) hI.2.1 hI.hA ha (by rw [hn]; exact nI_pos (by omega)) (by rw [hn]; exact nI_clamp (by omega)) hbytes hcells hslots hdg (fun q cA H1 gK g1 g2 g3 => ?_)
  have e1 : cA = Z.2.1 t0 := by
    have k1 := (gK.2 _ (cA, ty) (by rw [List.getElem?_append_right (Nat.le_refl _), Nat.sub_self]; rfl)).2
    have k2 := (hk.1.2 t0 _ ht).2
    cases ty with
    | object C => exact absurd rfl (hnr C)
    | _ => exact Option.some.inj (k1.symm.trans k2)
  subst e1
  obtain ⟨w1, w2⟩ := hw_Lpush hI.1 g1 g2
  exact kk q H1 w2 ⟨w1, g3, hI.2.2⟩
/-- a new array of references -/
theorem hw_newq (hexec : p.tables.exec = Jvm.exec) (hb : c.code = cc) {own C : String} {index : Nat} (hts : ∀ w ∈ hw_ws, w.before args s = true) (hown : s.vm.findClass own = some m.cls) (hk : hw_kk Z s) (hI : hw_iv Z s M H locs) (hcl : Cond.classLink own index C ∈ hw_ws) (hov : C ∈ hw_lA) (t0 : Nat) (ht : (hw_tys Z)[t0]? = some (Z.2.1 t0, .object C)) {n : Int32} {N' : Nat} (hn : n = nI N') (hN : N' < 2 ^ 20) (hcells : cells + 1 ≤ R.cells) (hslots : slots + N' ≤ R.slots) (hdg : decode cc pc = .ok (.anewarray index, 3))
    (kk : ∀ (q : Nat) (H1 : Heap), M q = none → hw_iv Z s (va_up M q (hw_ar Z t0 N' (fun _ => none))) H1 locs → W p l e R s m args below meth c H1 locs (cells + 1) (slots + N') Q (F0 m (pc + 3) ls (.ref q :: rest))) : W p l e R s m args below meth c H locs cells slots Q (F0 m pc ls (.int n :: rest)) := by
  refine va_newq hexec hb hown (hts _ hcl) (hk.2.2.2.2.2.2.2.2.2.2.1 _ hov) hk.1 (hw_LP hI.1) (hw_LD hI.1) hI.2.1 hI.hA (by rw [hn]; exact nI_pos (by omega)) (by rw [hn]; exact nI_clamp (by omega)) (by omega) hcells hslots hdg (fun q cA H1 gK g1 g2 g3 => ?_)
  have e1 : cA = Z.2.1 t0 := by
    obtain ⟨_, _, _, _, _, k1⟩ := (gK.2 _ (cA, .object C) (by rw [List.getElem?_append_right (Nat.le_refl _), Nat.sub_self]; rfl)).2
    obtain ⟨_, _, _, _, _, k2⟩ := (hk.1.2 t0 _ ht).2
    exact Option.some.inj (k1.symm.trans k2)
  subst e1
  obtain ⟨w1, w2⟩ := hw_Lpush hI.1 g1 g2
  exact kk q H1 w2 ⟨w1, g3, hI.2.2⟩
/-- System.arraycopy of long arrays -/
theorem hw_copyl (hexec : p.tables.exec = Jvm.exec) (hb : c.code = cc) (hml : c.maxLocals = ls.size) {own : String} {index : Nat} (hts : ∀ w ∈ hw_ws, w.before args s = true) (hown : s.vm.findClass own = some m.cls) (hk : hw_kk Z s) (hI : hw_iv Z s M H locs) (hlink : Cond.methodLink own index arraycopyName ∈ hw_ws) (hnat : Cond.native arraycopyName ∈ hw_ws) (hstat : Cond.static arraycopyName ∈ hw_ws) (hini : Cond.initialized "java/lang/System" ∈ hw_ws) {a0 n0 n1 : Nat} {f g : Nat → Int64} (he0 : M a0 = hw_al Z n0 f) (he1 : M a = hw_al Z n1 g) {sp dp n : Int32} {sp' dp' n' : Nat} (h1 : sp = nI sp') (h2 : dp = nI dp') (h3 : n = nI n') (hb1 : sp' < 2 ^ 20) (hb2 : dp' < 2 ^ 20) (hb3 : n' < 2 ^ 20) (h4 : sp' + n' ≤ n0) (h5 : dp' + n' ≤ n1)
    (hframes : 1 ≤ R.frames) (hlocals : (rest.map fun v => v.category).sum + (nativeFrameWords "java/lang/System" "arraycopy" 5 + 11) ≤ R.locals) (hdg : decode cc pc = .ok (.invokestatic index, 3))
    (kk : ∀ (H1 : Heap) (locs1 : List Loc), hw_iv Z s (va_up M a (hw_al Z n1 (va_cpy f g sp' dp' n'))) H1 locs1 → W p l e R s m args below meth c H1 locs1 cells slots Q (F0 m (pc + 3) ls rest)) : W p l e R s m args below meth c H locs cells slots Q (F0 m pc ls (.int n :: .int dp :: .ref a :: .int sp :: .ref a0 :: rest)) := by
  obtain ⟨q0, hq0⟩ := hw_Lget hI.1 he0
  obtain ⟨q1, hq1⟩ := hw_Lget hI.1 he1
  have c1 : sp.toNatClampNeg = sp' := by rw [h1]; exact nI_clamp (by omega)
  have c2 : dp.toNatClampNeg = dp' := by rw [h2]; exact nI_clamp (by omega)
  have c3 : n.toNatClampNeg = n' := by rw [h3]; exact nI_clamp (by omega)
  refine va_copyl hexec hb hml hown (hts _ hlink) (hts _ hnat) (hts _ hstat) (hts _ hini) hk.1 (hw_LP hI.1) (hw_LD hI.1) hI.2.1 q0 q1 1 1 hq0 hq1 rfl rfl rfl (by rw [h1]; exact nI_pos (by omega)) (by rw [h2]; exact nI_pos (by omega)) (by rw [h3]; exact nI_pos (by omega)) (by rw [c1, c3]; exact h4) (by rw [c2, c3]; exact h5) (fun _ _ => rfl) hframes hlocals hdg (fun H1 locs1 g1 _ g3 => kk H1 locs1 (hI.set hq1 ?_ g3))
  rw [c1, c2, c3] at g1
  exact g1
end HWR
