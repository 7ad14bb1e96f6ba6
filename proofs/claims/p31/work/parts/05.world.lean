/-! The world as a partial map from addresses to cells; what a method may take as given (hw_kk); the words of the tables in one list (hw_ws); the kit's rows in these words. -/
def hw_ws : List Cond := lw_tbl.filter goodWord
theorem hw_win {w : Cond} (h : w ∈ lw_tbl) (hg : goodWord w = true) : w ∈ hw_ws := List.mem_filter.mpr ⟨h, hg⟩
theorem hw_wgood {w : Cond} (h : w ∈ hw_ws) : goodWord w = true := (List.mem_filter.mp h).2
abbrev hw_m (y : MethodName) (cc : ByteArray) (n : Nat) (ret : Option FieldType) : List Cond := Cond.code y cc n ret :: hw_ws
theorem hw_gm {y : MethodName} {cc : ByteArray} {n : Nat} {ret : Option FieldType} (h : Cond.code y cc n ret ∈ hw_ws) : GoodIn hw_ws (hw_m y cc n ret) := by
  intro w hw
  rcases List.mem_cons.mp hw with e | e
  · subst e; exact ⟨h, good_of_word (hw_wgood h)⟩
  · exact ⟨e, good_of_word (hw_wgood e)⟩
theorem hw_gc {w : Cond} {ws : List Cond} (h : w ∈ hw_ws) (hg : GoodIn hw_ws ws) : GoodIn hw_ws (w :: ws) := by
  intro v hv
  rcases List.mem_cons.mp hv with e | e
  · subst e; exact ⟨h, good_of_word (hw_wgood h)⟩
  · exact hg v e
abbrev hw_M : Type := Nat → Option va_E
/-- the classes' numbers and slots, the array classes, the first address that may be written, the script -/
abbrev hw_Z : Type := va_G × (Nat → ClassId) × Nat × Nat
abbrev hw_A (Z : hw_Z) : Nat → Prop := fun q => Z.2.2.1 ≤ q
abbrev hw_tys (Z : hw_Z) : List (ClassId × FieldType) := [(Z.2.1 0, .int), (Z.2.1 1, .long), (Z.2.1 2, .double), (Z.2.1 3, .object "MeltPool$Piece"), (Z.2.1 4, .object "MeltPool$Powder"), (Z.2.1 5, .object "MeltPool$Machine"), (Z.2.1 6, .array .int), (Z.2.1 7, .array .boolean), (Z.2.1 8, .boolean), (Z.2.1 9, .array .double)]
abbrev hw_ai (Z : hw_Z) (n : Nat) (f : Nat → Int32) : Option va_E := some (.inl (Z.2.1 0, n, .inl f))
abbrev hw_al (Z : hw_Z) (n : Nat) (f : Nat → Int64) : Option va_E := some (.inl (Z.2.1 1, n, .inr (.inl f)))
abbrev hw_ad (Z : hw_Z) (n : Nat) (f : Nat → UInt64) : Option va_E := some (.inl (Z.2.1 2, n, .inr (.inr (.inr (.inl f)))))
abbrev hw_ar (Z : hw_Z) (k n : Nat) (f : Nat → Option Nat) : Option va_E := some (.inl (Z.2.1 k, n, .inr (.inr (.inr (.inr f)))))
abbrev hw_ob (ci : Nat) (fs : List Value) : Option va_E := some (.inr (ci, fs))
def hw_wd (Z : hw_Z) (M : hw_M) (H : Heap) : Prop := ∀ (a : Nat) (e : va_E), M a = some e → Z.2.2.1 ≤ a ∧ va_at Z.1 vwCl (a, e) H
theorem hw_wd.lt {Z : hw_Z} {M : hw_M} {H : Heap} (h : hw_wd Z M H) {a : Nat} {e : va_E} (he : M a = some e) : a < H.size := (h a e he).2.lt
theorem hw_wd.P1 {Z : hw_Z} {M : hw_M} {H : Heap} (h : hw_wd Z M H) {a : Nat} {e : va_E} (he : M a = some e) : va_P Z.1 vwCl [(a, e)] H := by
  intro k q hk
  cases k with
  | zero => cases hk; exact (h a e he).2
  | succ k => cases hk
theorem hw_wd.up {Z : hw_Z} {M : hw_M} {H H1 : Heap} (h : hw_wd Z M H) {a : Nat} {e0 e : va_E} (h0 : M a = some e0) (he : va_at Z.1 vwCl (a, e) H1) (oq : ∀ q : Nat, q ≠ a → H1[q]? = H[q]?) : hw_wd Z (va_up M a (some e)) H1 := by
  intro b x hx
  by_cases hb : b = a
  · subst hb
    rw [va_up_self] at hx
    cases hx
    exact ⟨(h _ e0 h0).1, he⟩
  · rw [va_up_ne _ _ hb] at hx
    exact ⟨(h b x hx).1, (h b x hx).2.kept (oq b hb)⟩
theorem hw_wd.new {Z : hw_Z} {M : hw_M} {H H1 : Heap} (h : hw_wd Z M H) (hb : Z.2.2.1 ≤ H.size) {e : va_E} (he : va_at Z.1 vwCl (H.size, e) H1) (oq : ∀ q : Nat, q < H.size → H1[q]? = H[q]?) : hw_wd Z (va_up M H.size (some e)) H1 := by
  intro b x hx
  by_cases hq : b = H.size
  · subst hq
    rw [va_up_self] at hx
    cases hx
    exact ⟨hb, he⟩
  · rw [va_up_ne _ _ hq] at hx
    have h1 := h b x hx
    exact ⟨h1.1, h1.2.kept (oq b (h.lt hx))⟩
theorem hw_wd.none {Z : hw_Z} {M : hw_M} {H : Heap} (h : hw_wd Z M H) : M H.size = none := by
  cases he : M H.size with
  | none => rfl
  | some e => exact absurd (h.lt he) (Nat.lt_irrefl _)
/-- another function for a cell's contents, the same as far as it goes -/
theorem hw_wd.ext {Z : hw_Z} {M : hw_M} {H : Heap} (h : hw_wd Z M H) {a : Nat} {e0 e : va_E} (h0 : M a = some e0) (he : va_at Z.1 vwCl (a, e0) H → va_at Z.1 vwCl (a, e) H) : hw_wd Z (va_up M a (some e)) H := by
  intro b x hx
  by_cases hb : b = a
  · subst hb
    rw [va_up_self] at hx
    cases hx
    exact ⟨(h _ e0 h0).1, he (h _ e0 h0).2⟩
  · rw [va_up_ne _ _ hb] at hx
    exact h b x hx
-- words that are not good ones, by kind
def hw_lN : List (String × Nat × MethodName × String) := [("MeltPool", 29, ⟨"MeltPool$Solid", "<init>", "()V"⟩, "MeltPool"), ("MeltPool", 36, ⟨"MeltPool$Melt", "<init>", "()V"⟩, "MeltPool"), ("MeltPool$Piece", 11, ⟨"MeltPool$Solid", "<init>", "()V"⟩, "MeltPool"), ("MeltPool$Piece", 20, ⟨"MeltPool$Melt", "<init>", "()V"⟩, "MeltPool"), ("MeltPool$Piece", 68, ⟨"MeltPool", "energyOf", "(II)D"⟩, "MeltPool"), ("MeltPoolLaw$Told", 56, ⟨"MeltPoolLaw", "cell", "([II)I"⟩, "MeltPoolLaw"), ("MeltPoolLaw$Told", 62, ⟨"MeltPoolLaw", "below", "(II)I"⟩, "MeltPoolLaw")]
def hw_lC : List (String × String) := [("java/lang/IllegalArgumentException", "java/lang/IllegalArgumentException"), ("java/lang/IllegalStateException", "java/lang/IllegalStateException"), ("java/lang/IndexOutOfBoundsException", "java/lang/IndexOutOfBoundsException")]
def hw_lX : List (String × String) := []
def hw_lD : List MethodName := [⟨"java/lang/Exception", "<init>", "()V"⟩, ⟨"java/lang/Exception", "<init>", "(Ljava/lang/String;)V"⟩, ⟨"java/lang/RuntimeException", "<init>", "()V"⟩, ⟨"java/lang/RuntimeException", "<init>", "(Ljava/lang/String;)V"⟩, ⟨"java/lang/Throwable", "<init>", "()V"⟩, ⟨"java/lang/Throwable", "<init>", "(Ljava/lang/String;)V"⟩]
def hw_lF : List (String × MethodName × MethodName) := []
def hw_lA : List String := ["MeltPool$Machine", "MeltPool$Piece", "MeltPool$Powder"]
def hw_lS : List (String × Nat × String) := [("MeltPool", 52, "there are 4 pieces"), ("MeltPool", 98, "no such alloy"), ("MeltPool", 101, "grams are not 1 to 2000"), ("MeltPool", 106, "there are 6 powders"), ("MeltPool", 121, "both are the same powder"), ("MeltPool", 123, "the alloys differ"), ("MeltPool", 128, "a powder is in a machine"), ("MeltPool", 142, "a powder is in the machine"), ("MeltPool", 144, "the powder is in a machine"), ("MeltPool", 146, "the powder has no grams"), ("MeltPool", 160, "no powder is in the machine"), ("MeltPool", 166, "a piece is growing in the machine"), ("MeltPool", 180, "speed is not 1 to 20"), ("MeltPool", 182, "the piece has no cells"), ("MeltPool", 188, "layers are not 1 to 8"), ("MeltPool", 281, "what is not 0 to 14"), ("MeltPool", 293, "what is not 0 to 2"), ("MeltPool", 296, "what is not 0 to 4"), ("MeltPool", 316, "what is not 0 or 1"), ("MeltPool", 327, "what is not 0 to 7"), ("MeltPool", 380, "no such piece"), ("MeltPool", 382, "no such powder"), ("MeltPool", 384, "no such machine"), ("MeltPool", 386, "no such layer"), ("MeltPool", 388, "way is not 0 to 5"), ("MeltPool", 390, "power is not 50 to 400"), ("MeltPool", 392, "the piece is no solid any more"), ("MeltPool", 396, "no piece is growing in the machine")]
/-- a script of ints lies where nothing is written -/
def hw_sc (Z : hw_Z) (U : State) : Prop := ∃ (L : Nat) (xs : Nat → Int32), L ≤ 260 ∧ va_X Z.2.2.2 L xs U U.heap ∧ ¬ hw_A Z Z.2.2.2
def hw_aa (t : FieldType) (U : State) : Prop := (Cond.arrayOver (.array t)).before #[] U = true
def hw_lB : List FieldType := [.int, .boolean, .double]
theorem hw_sc.mv {Z : hw_Z} {s U : State} (ha : s.vm.Alike U.vm) (hh : ∀ q : Nat, q < s.heap.size → ¬ hw_A Z q → U.heap[q]? = s.heap[q]?) (h : hw_sc Z s) : hw_sc Z U := by
  obtain ⟨L, xs, h1, h2, h3⟩ := h
  have hlt : Z.2.2.2 < s.heap.size := by
    obtain ⟨scr, g, -⟩ := h2
    exact (Array.getElem?_eq_some_iff.mp g).1
  exact ⟨L, xs, h1, (h2.moved ha).kept (hh _ hlt h3), h3⟩
/-- what a method takes as given beside its world -/
def hw_kk (Z : hw_Z) (U : State) : Prop :=
  va_K Z.1 vwCl (hw_tys Z) U ∧ vx_Zq Bundle.tN "UNASSIGNED_STACK" Bundle.steD (hw_A Z) U U.heap ∧ vx_Zq Bundle.tN "SUPPRESSED_SENTINEL" Bundle.listD (hw_A Z) U U.heap ∧
  hw_sc Z U ∧ (∀ t ∈ hw_lB, hw_aa t U) ∧
  (∀ q ∈ hw_lN, va_Nw (.methodLinkNest q.1 q.2.1 q.2.2.1 q.2.2.2) U) ∧ (∀ q ∈ hw_lC, va_Nw (.castable q.1 q.2) U) ∧ (∀ q ∈ hw_lX, va_Nc q.1 q.2 U) ∧ (∀ q ∈ hw_lD, va_Nw (.declares q) U) ∧
  (∀ q ∈ hw_lF, (q.2.1.cls ≠ "java/lang/invoke/MethodHandle" ∧ q.2.1.cls ≠ "java/lang/invoke/VarHandle") ∧ va_Fw q.1 q.2.1 q.2.2 U) ∧ (∀ q ∈ hw_lA, va_AO q U) ∧ (∀ q ∈ hw_lS, ∃ sa : Nat, vk_R q.1 q.2.1 q.2.2 sa U)
theorem hw_kk.mv {Z : hw_Z} {s U : State} (ha : s.vm.Alike U.vm) (hh : ∀ q : Nat, q < s.heap.size → ¬ hw_A Z q → U.heap[q]? = s.heap[q]?) (hN : ∀ q ∈ hw_lN, va_Nw (.methodLinkNest q.1 q.2.1 q.2.2.1 q.2.2.2) U) (hC : ∀ q ∈ hw_lC, va_Nw (.castable q.1 q.2) U) (hD : ∀ q ∈ hw_lD, va_Nw (.declares q) U) (hR : ∀ q ∈ hw_lS, ∃ sa : Nat, vk_R q.1 q.2.1 q.2.2 sa U) (h : hw_kk Z s) : hw_kk Z U := by
  obtain ⟨h1, h2, h3, h4, h5, h6, h7, h8, h9, h10, h11, h12⟩ := h
  exact ⟨va_K.moved ha h1, (h2.moved ha).kept hh, (h3.moved ha).kept hh, hw_sc.mv ha hh h4, fun t ht => over_moved ha (h5 t ht), hN, hC, fun q hq => va_Nc.moved ha (h8 q hq), hD, fun q hq => ⟨(h10 q hq).1, va_Fw.moved (h10 q hq).1 ha (h10 q hq).2⟩, fun q hq => va_AO.moved ha (h11 q hq), hR⟩
theorem hw_kk.warm {Z : hw_Z} {s U : State} (hW : s.WarmedH U.vm) (hh : ∀ q : Nat, q < s.heap.size → ¬ hw_A Z q → U.heap[q]? = s.heap[q]?) (h : hw_kk Z s) : hw_kk Z U := by
  refine hw_kk.mv hW.alike hh (fun q hq => va_Nw.warmM hW (h.2.2.2.2.2.1 q hq)) (fun q hq => va_Nw.warmC hW (h.2.2.2.2.2.2.1 q hq)) (fun q hq => va_Nw.warmD hW (h.2.2.2.2.2.2.2.2.1 q hq)) (fun q hq => ?_) h
  obtain ⟨sa, hr⟩ := h.2.2.2.2.2.2.2.2.2.2.2 q hq
  exact ⟨sa, vk_R.warm hW hr⟩
theorem hw_kk.same {Z : hw_Z} {u U : State} (hv : U.vm = u.vm) (hh : U.heap = u.heap) (h : hw_kk Z u) : hw_kk Z U := by
  refine hw_kk.mv (by rw [hv]; exact Vm.Alike.refl _) (fun q _ _ => by rw [hh]) (fun q hq => va_Nw.same rfl hv.symm (h.2.2.2.2.2.1 q hq)) (fun q hq => va_Nw.same rfl hv.symm (h.2.2.2.2.2.2.1 q hq)) (fun q hq => va_Nw.same rfl hv.symm (h.2.2.2.2.2.2.2.2.1 q hq)) (fun q hq => ?_) h
  obtain ⟨sa, hr⟩ := h.2.2.2.2.2.2.2.2.2.2.2 q hq
  exact ⟨sa, vk_R.same hv hr⟩
/-- a method's start, and its world behind it -/
def hw_P (Z : hw_Z) (M : hw_M) (U : State) : Prop := hw_kk Z U ∧ hw_wd Z M U.heap ∧ Z.2.2.1 ≤ U.heap.size
def hw_B (Z : hw_Z) (M : hw_M) (t : State) : Prop := hw_wd Z M t.heap
def hw_iv (Z : hw_Z) (s : State) (M : hw_M) (H : Heap) (locs : List Loc) : Prop := hw_wd Z M H ∧ va_S (hw_A Z) s.heap H locs ∧ Z.2.2.1 ≤ s.heap.size
theorem hw_blind {Z : hw_Z} {M : hw_M} {av : List Value} : FrameBlind (va_Pc av (hw_P Z M)) := by
  intro a U g mk h
  obtain ⟨h1, h2, h3, h4⟩ := h
  exact ⟨h1, hw_kk.same (u := U) (U := U.calling g mk a) rfl rfl h2, h3, h4⟩
theorem hw_iv.P {Z : hw_Z} {s : State} {M : hw_M} {H : Heap} {locs : List Loc} (hI : hw_iv Z s M H locs) (hk : hw_kk Z s) {U : State} (hU : U.heap = H) (hW : s.WarmedH U.vm) : hw_P Z M U :=
  ⟨hw_kk.warm hW (fun q h1 h2 => by rw [hU]; exact hI.2.1.2.1 q h1 h2) hk, by rw [hU]; exact hI.1, by rw [hU]; exact Nat.le_trans hI.2.2 hI.2.1.1⟩
theorem hw_iv.recv {Z : hw_Z} {s : State} {M : hw_M} {H : Heap} {locs : List Loc} (hI : hw_iv Z s M H locs) (hk : hw_kk Z s) {a ci : Nat} {fs : List Value} {r : vw_C} (he : M a = hw_ob ci fs) (hc : vwCl[ci]? = some r) : ∃ cell : Cell, H[a]? = some cell ∧ cell.vm.isStatics = false ∧ s.vm.findClass r.1 = some cell.cls :=
  va_recv (q0 := 0) hk.1 (hI.1.P1 he) hc rfl
theorem hw_iv.aft {Z : hw_Z} {s t : State} {M M1 : hw_M} {H : Heap} {locs locs1 : List Loc} (hI : hw_iv Z s M H locs) (hB : hw_B Z M1 t) (hS : va_S (hw_A Z) s.heap t.heap locs1) : hw_iv Z s M1 t.heap locs1 := ⟨hB, hS, hI.2.2⟩
