/-! Rows: arrays of truths, arrays of arrays, the script, a copy of nothing. -/
abbrev hw_az (Z : hw_Z) (n : Nat) (f : Nat → Int32) : Option va_E := some (.inl (Z.2.1 8, n, .inl f))
section HWA
variable {p : Program} {l : Launch} {e : Env} {R : Room} {s : State} {m : MethodId} {args : Array Value} {below : List Frame} {meth : Method} {c : Code} {H : Heap} {locs : List Loc} {cells slots : Nat} {Q : State → Prop}
variable {cc : ByteArray} {pc : Nat} {ls : Array Slot} {rest : List Value} {Z : hw_Z} {M : hw_M} {a : Nat}
theorem hw_zald (hexec : p.tables.exec = Jvm.exec) (hb : c.code = cc) (hk : hw_kk Z s) (hI : hw_iv Z s M H locs) {n : Nat} {f : Nat → Int32} (he : M a = hw_az Z n f) {i : Int32} {j : Nat} (hi : i = nI j) (hj : j < n) (hn : n < 2 ^ 31) (hdg : decode cc pc = .ok (.baload, 1))
    (kk : W p l e R s m args below meth c H locs cells slots Q (F0 m (pc + 1) ls (.int (f j) :: rest))) : W p l e R s m args below meth c H locs cells slots Q (F0 m pc ls (.int i :: .ref a :: rest)) := by
  refine va_zald hexec hb hk.1 (hI.1.P1 he) 0 8 rfl rfl (hw_in hi hj hn) hdg ?_
  rw [hw_cl hi hj hn]
  exact kk
theorem hw_zast (hexec : p.tables.exec = Jvm.exec) (hb : c.code = cc) (hk : hw_kk Z s) (hI : hw_iv Z s M H locs) {n : Nat} {f : Nat → Int32} (he : M a = hw_az Z n f) {i x y : Int32} {j : Nat} (hi : i = nI j) (hj : j < n) (hn : n < 2 ^ 31) (hy : vp_nar .boolean x = y) (hdg : decode cc pc = .ok (.bastore, 1))
    (kk : ∀ (H1 : Heap) (locs1 : List Loc), hw_iv Z s (va_up M a (hw_az Z n (va_up f j y))) H1 locs1 → W p l e R s m args below meth c H1 locs1 cells slots Q (F0 m (pc + 1) ls rest)) : W p l e R s m args below meth c H locs cells slots Q (F0 m pc ls (.int x :: .int i :: .ref a :: rest)) := by
  obtain ⟨q0, hq0⟩ := hw_Lget hI.1 he
  refine va_zast hexec hb hk.1 (hw_LP hI.1) (hw_LD hI.1) hI.2.1 q0 8 hq0 rfl (hw_in hi hj hn) hdg (fun H1 locs1 g1 _ g3 => kk H1 locs1 (hI.set hq0 ?_ g3))
  rw [hw_cl hi hj hn, hy] at g1
  exact g1
theorem hw_aaldA (hexec : p.tables.exec = Jvm.exec) (hb : c.code = cc) (hk : hw_kk Z s) (hI : hw_iv Z s M H locs) (t0 : Nat) {ty : FieldType} {n : Nat} {f : Nat → Option Nat} {v : Value} (he : M a = hw_ar Z t0 n f) (ht : (hw_tys Z)[t0]? = some (Z.2.1 t0, .array ty)) {i : Int32} {j : Nat} (hi : i = nI j) (hj : j < n) (hn : n < 2 ^ 31) (hv : va_rf (f j) = v) (hdg : decode cc pc = .ok (.aaload, 1))
    (kk : W p l e R s m args below meth c H locs cells slots Q (F0 m (pc + 1) ls (v :: rest))) : W p l e R s m args below meth c H locs cells slots Q (F0 m pc ls (.int i :: .ref a :: rest)) := by
  have hin := hw_in hi hj hn
  have hcl := hw_cl hi hj hn
  have hc : H[a]? = some (vp_cell (Z.2.1 t0) (n, .inr (.inr (.inr (.inr f))))) := (hI.1 a _ he).2
  have hr : (arrV (Z.2.1 t0) n (fun j => va_rf (f j))).slots[i.toNatClampNeg]? = some v := by rw [hcl, arrV_read _ _ hj, hv]
  exact W.aald (v := v) (ty := .array ty) hexec hb hc ((hk.1.2 t0 _ ht).1 n (fun j => va_rf (f j))) rfl (fun q => by cases q) (by show ¬ (i < 0 ∨ (arrV _ _ _).slots.size ≤ _); rw [arrV_size]; exact hin) hr rfl rfl hdg kk
/-- what the class of an array of arrays has for its component -/
theorem hw_comp (hk : hw_kk Z s) {t0 t1 : Nat} {t : FieldType} (hB : t ∈ hw_lB) (ht : (hw_tys Z)[t0]? = some (Z.2.1 t0, .array t)) (h1 : s.vm.findClass (FieldType.array t).toString = some (Z.2.1 t1)) : ∃ k : Class, s.vm.classes[Z.2.1 t0]? = some k ∧ k.kind = .array (Z.2.1 t1) (.array t) := by
  obtain ⟨comp, c0, k, g1, -, g3, g4, g5⟩ := arrayOverA_spec (hk.2.2.2.2.1 t hB)
  have e1 : c0 = Z.2.1 t0 := Option.some.inj (g5.symm.trans (hk.1.2 t0 _ ht).2)
  have e2 : comp = Z.2.1 t1 := Option.some.inj (g1.symm.trans h1)
  subst e1; subst e2
  exact ⟨k, g3, g4⟩
theorem hw_vc (k : ClassId) (x : vp_A) : (vp_cell k x).cls = k ∧ (vp_cell k x).vm = .none := by
  obtain ⟨n, f | f | f | f | f⟩ := x <;> exact ⟨rfl, rfl⟩
theorem hw_aastA (hexec : p.tables.exec = Jvm.exec) (hb : c.code = cc) (hk : hw_kk Z s) (hI : hw_iv Z s M H locs) (t0 t1 : Nat) {t : FieldType} (hB : t ∈ hw_lB) {n v : Nat} {x : vp_A} {f : Nat → Option Nat} (he : M a = hw_ar Z t0 n f) (ht : (hw_tys Z)[t0]? = some (Z.2.1 t0, .array t)) (h1 : s.vm.findClass (FieldType.array t).toString = some (Z.2.1 t1)) (hv : M v = some (.inl (Z.2.1 t1, x))) {i : Int32} {j : Nat} (hi : i = nI j) (hj : j < n) (hn : n < 2 ^ 31) (hdg : decode cc pc = .ok (.aastore, 1))
    (kk : ∀ (H1 : Heap) (locs1 : List Loc), hw_iv Z s (va_up M a (hw_ar Z t0 n (va_up f j (some v)))) H1 locs1 → W p l e R s m args below meth c H1 locs1 cells slots Q (F0 m (pc + 1) ls rest)) : W p l e R s m args below meth c H locs cells slots Q (F0 m pc ls (.ref v :: .int i :: .ref a :: rest)) := by
  have hcl := hw_cl hi hj hn
  obtain ⟨k, k1, k2⟩ := hw_comp hk hB ht h1
  obtain ⟨kc, hkc, -⟩ := Vm.findClass_spec h1
  have hc : H[a]? = some (vp_cell (Z.2.1 t0) (n, .inr (.inr (.inr (.inr f))))) := (hI.1 a _ he).2
  have hcv : H[v]? = some (vp_cell (Z.2.1 t1) x) := (hI.1 v _ hv).2
  have hx := hw_vc (Z.2.1 t1) x
  have h0 : ¬ i < 0 := by rw [hi]; exact nI_pos (by omega)
  refine W.aast hexec hb hc (fun q h => by cases h) (fun h => by cases h) k1 k2 rfl hkc ⟨h0, by show _ < (arrV _ _ _).slots.size; rw [arrV_size, hcl]; exact hj⟩ hcv (fun q h => by rw [hx.2] at h; cases h) (by rw [hx.1]; exact hkc) (by rw [hx.1]; exact va_asg _ _) rfl rfl hdg fun H1 ee z oq => ?_
  refine kk H1 _ ⟨hI.1.up he ?_ oq, hI.2.1.put z oq (hI.1 a _ he).1, hI.2.2⟩
  show H1[a]? = some (vp_cell _ _)
  rw [ee, vp_cell_q, vp_cell_q, arrV_store, hcl]
  congr 2
  funext q
  by_cases hq : q = j
  · subst hq; simp [updV, va_up, va_rf]
  · simp [updV, va_up, hq]
theorem hw_newA (hexec : p.tables.exec = Jvm.exec) (hb : c.code = cc) {own : String} {index : Nat} {t : FieldType} (hts : ∀ w ∈ hw_ws, w.before args s = true) (hown : s.vm.findClass own = some m.cls) (hk : hw_kk Z s) (hI : hw_iv Z s M H locs) (hcl : Cond.classLink own index (FieldType.array t).toString ∈ hw_ws) (hB : t ∈ hw_lB) (t0 : Nat) (ht : (hw_tys Z)[t0]? = some (Z.2.1 t0, .array t)) {n : Int32} {N' : Nat} (hn : n = nI N') (hN : N' < 2 ^ 20) (hcells : cells + 1 ≤ R.cells) (hslots : slots + N' ≤ R.slots) (hdg : decode cc pc = .ok (.anewarray index, 3))
    (kk : ∀ (q : Nat) (H1 : Heap), M q = none → hw_iv Z s (va_up M q (hw_ar Z t0 N' (fun _ => none))) H1 locs → W p l e R s m args below meth c H1 locs (cells + 1) (slots + N') Q (F0 m (pc + 3) ls (.ref q :: rest))) : W p l e R s m args below meth c H locs cells slots Q (F0 m pc ls (.int n :: rest)) := by
  subst hn
  have hc : (nI N').toNatClampNeg = N' := nI_clamp (by omega)
  have hov : (Cond.arrayOver (.array t)).before args s = true := over_moved (Vm.Alike.refl _) (hk.2.2.2.2.1 t hB)
  refine W.anewA hexec hb hown (hts _ hcl) hov rfl hdg rfl (nI_pos (by omega)) (by rw [hc]; omega) hcells (by rw [hc]; exact hslots) fun cA kA comp f1 f2 f3 f4 => ?_
  have e1 : cA = Z.2.1 t0 := Option.some.inj (f1.symm.trans (hk.1.2 t0 _ ht).2)
  subst e1
  rw [hc]
  generalize hH1 : H.push ({ cls := Z.2.1 t0, slots := Array.replicate N' .null, vm := .none } : Cell) = H1
  have z1 : H1.size = H.size + 1 := by rw [← hH1, Array.size_push]
  have o1 : ∀ q : Nat, q < H.size → H1[q]? = H[q]? := fun q hq => by rw [← hH1, Array.getElem?_push, if_neg (Nat.ne_of_lt hq)]
  have ee : H1[H.size]? = some (vp_cell (Z.2.1 t0) (N', .inr (.inr (.inr (.inr (fun _ => none)))))) := by rw [vp_cell_q, ← hH1, Array.getElem?_push_size, ← arrV_new]; rfl
  have hle : Z.2.2.1 ≤ H.size := Nat.le_trans hI.2.2 hI.2.1.1
  exact kk H.size H1 hI.1.none ⟨hI.1.new hle ee o1, ⟨Nat.le_trans hI.2.1.1 (by omega), fun x g1 g2 => (o1 x (Nat.lt_of_lt_of_le g1 hI.2.1.1)).trans (hI.2.1.2.1 x g1 g2), hI.2.1.2.2⟩, hI.2.2⟩
/-- System.arraycopy of no element between arrays of arrays -/
theorem hw_copy0 (hexec : p.tables.exec = Jvm.exec) (hb : c.code = cc) (hml : c.maxLocals = ls.size) {own : String} {index : Nat} (hts : ∀ w ∈ hw_ws, w.before args s = true) (hown : s.vm.findClass own = some m.cls) (hk : hw_kk Z s) (hI : hw_iv Z s M H locs) (hlink : Cond.methodLink own index arraycopyName ∈ hw_ws) (hnat : Cond.native arraycopyName ∈ hw_ws) (hstat : Cond.static arraycopyName ∈ hw_ws) (hini : Cond.initialized "java/lang/System" ∈ hw_ws) (t0 : Nat) {t : FieldType} (ht : (hw_tys Z)[t0]? = some (Z.2.1 t0, .array t)) {a0 n0 n1 : Nat} {f g : Nat → Option Nat} (he0 : M a0 = hw_ar Z t0 n0 f) (he1 : M a = hw_ar Z t0 n1 g) {sp dp n : Int32} (e1 : sp = nI 0) (e2 : dp = nI 0) (e3 : n = nI 0)
    (hframes : 1 ≤ R.frames) (hlocals : (rest.map fun v => v.category).sum + (nativeFrameWords "java/lang/System" "arraycopy" 5 + 11) ≤ R.locals) (hdg : decode cc pc = .ok (.invokestatic index, 3))
    (kk : ∀ (H1 : Heap) (locs1 : List Loc), hw_iv Z s M H1 locs1 → W p l e R s m args below meth c H1 locs1 cells slots Q (F0 m (pc + 3) ls rest)) : W p l e R s m args below meth c H locs cells slots Q (F0 m pc ls (.int n :: .int dp :: .ref a :: .int sp :: .ref a0 :: rest)) := by
  subst e1; subst e2; subst e3
  have c0 : (nI 0).toNatClampNeg = 0 := nI_clamp (by decide)
  have i0 : (nI 0).toInt = 0 := nI_toInt (by decide)
  intro T hT X
  have hc0 : H[a0]? = some (vp_cell (Z.2.1 t0) (n0, .inr (.inr (.inr (.inr f))))) := (hI.1 a0 _ he0).2
  have hc1 : H[a]? = some (vp_cell (Z.2.1 t0) (n1, .inr (.inr (.inr (.inr g))))) := (hI.1 a _ he1).2
  obtain ⟨-, k0, hk0, cm0, hkk0⟩ := (hk.1.2 t0 _ ht).1 n0 (fun j => va_rf (f j))
  obtain ⟨-, k1, hk1, cm1, hkk1⟩ := (hk.1.2 t0 _ ht).1 n1 (fun j => va_rf (g j))
  obtain ⟨vm', X', step⟩ := X.arraycopy hexec hown (hts _ hlink) (hts _ hnat) (hts _ hstat) (hts _ hini) (src := a0) (dst := a) (cs := vp_cell (Z.2.1 t0) (n0, .inr (.inr (.inr (.inr f))))) (cd := vp_cell (Z.2.1 t0) (n1, .inr (.inr (.inr (.inr g))))) (srcPos := nI 0) (destPos := nI 0) (n := nI 0) (by rw [hT]; exact hc0) (by rw [hT]; exact hc1)
    (fun _ h => by cases h) (fun _ h => by cases h) (fun h => by cases h) (fun h => by cases h) hk0 hk1 hkk0 hkk1 rfl (nI_pos (by decide)) (nI_pos (by decide)) (nI_pos (by decide))
    (by rw [i0]; omega) (by rw [i0]; omega) (fun vm₁ _ i hi => by rw [c0] at hi; exact absurd hi (Nat.not_lt_zero _))
    (g := F0 m pc ls (.int (nI 0) :: .int (nI 0) :: .ref a :: .int (nI 0) :: .ref a0 :: rest)) rfl (by rw [hml]) (rest := rest) rfl (by rw [hb]; exact hdg) hframes (by show 2 * 0 + _ + _ ≤ _; omega)
  have ec : copied (vp_cell (Z.2.1 t0) (n0, .inr (.inr (.inr (.inr f))))) (vp_cell (Z.2.1 t0) (n1, .inr (.inr (.inr (.inr g))))) (nI 0) (nI 0) (nI 0) = vp_cell (Z.2.1 t0) (n1, .inr (.inr (.inr (.inr g)))) := by
    show Cell.storeRun _ _ (Cell.stretch _ _ _) = _
    rw [c0]; rfl
  have es : (Cell.stretch (vp_cell (Z.2.1 t0) (n0, .inr (.inr (.inr (.inr f))))) (nI 0).toNatClampNeg (nI 0).toNatClampNeg).zipIdx = [] := by rw [c0]; rfl
  rw [ec] at X' step
  rw [es] at X'
  have oq : ∀ q : Nat, ((T.setVm vm').setCell a (vp_cell (Z.2.1 t0) (n1, .inr (.inr (.inr (.inr g)))))).heap[q]? = H[q]? := fun q => by
    show (T.heap.setIfInBounds a _)[q]? = _
    rw [hT, Array.getElem?_setIfInBounds]
    by_cases h : a = q
    · subst h
      rw [if_pos rfl, hc1, if_pos (Array.getElem?_eq_some_iff.mp hc1).1]
    · rw [if_neg h]
  have hz : ((T.setVm vm').setCell a (vp_cell (Z.2.1 t0) (n1, .inr (.inr (.inr (.inr g)))))).heap.size = H.size := by
    show (T.heap.setIfInBounds a _).size = _
    rw [hT, Array.size_setIfInBounds]
  obtain ⟨t9, a1, b1⟩ := kk _ _ ⟨hI.1.keep (fun q _ => oq q), ⟨by rw [hz]; exact hI.2.1.1, fun q g1 g2 => (oq q).trans (hI.2.1.2.1 q g1 g2), fun q hq => hI.2.1.2.2 q (by simpa using hq)⟩, hI.2.2⟩ _ rfl X'
  exact ⟨t9, step t9 a1, b1⟩
/-- the script: its length, its places -/
theorem hw_slen (hexec : p.tables.exec = Jvm.exec) (hb : c.code = cc) (hI : hw_iv Z s M H locs) {L : Nat} {xs : Nat → Int32} (hX : va_X Z.2.2.2 L xs s s.heap) (hA : ¬ hw_A Z Z.2.2.2) (hdg : decode cc pc = .ok (.arraylength, 1))
    (kk : W p l e R s m args below meth c H locs cells slots Q (F0 m (pc + 1) ls (.int (nI L) :: rest))) : W p l e R s m args below meth c H locs cells slots Q (F0 m pc ls (.ref Z.2.2.2 :: rest)) := by
  have hlt : Z.2.2.2 < s.heap.size := by
    obtain ⟨scr, g, -⟩ := hX
    exact (Array.getElem?_eq_some_iff.mp g).1
  exact va_slen hexec hb hX hlt hA hI.2.1 hdg kk
theorem hw_sld (hexec : p.tables.exec = Jvm.exec) (hb : c.code = cc) (hI : hw_iv Z s M H locs) {L : Nat} {xs : Nat → Int32} (hX : va_X Z.2.2.2 L xs s s.heap) (hA : ¬ hw_A Z Z.2.2.2) (hL : L ≤ 260) {i : Int32} {j : Nat} (hi : i = nI j) (hj : j < L) (hdg : decode cc pc = .ok (.iaload, 1))
    (kk : W p l e R s m args below meth c H locs cells slots Q (F0 m (pc + 1) ls (.int (xs j) :: rest))) : W p l e R s m args below meth c H locs cells slots Q (F0 m pc ls (.int i :: .ref Z.2.2.2 :: rest)) := by
  have hlt : Z.2.2.2 < s.heap.size := by
    obtain ⟨scr, g, -⟩ := hX
    exact (Array.getElem?_eq_some_iff.mp g).1
  subst hi
  refine va_sld hexec hb hX hlt hA hI.2.1 (nI_in hj (by omega)) hdg ?_
  rw [nI_clamp (by omega)]
  exact kk
end HWA
