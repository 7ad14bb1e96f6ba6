/-! More rows: the empty list's array, casts, references compared, calls through an interface. -/
def hw_CF (own : String) (index : Nat) (C : String) (x y : MethodName) (bytes : ByteArray) (maxL : Nat) (ret : Option FieldType) (n : Nat) : Prop :=
  (x.cls ≠ "java/lang/invoke/MethodHandle" ∧ x.cls ≠ "java/lang/invoke/VarHandle" ∧ (parseMethodDescriptor x.desc).map (fun d => d.parameters.length) = some n) ∧ Cond.code y bytes maxL ret ∈ hw_ws ∧ Cond.initialized y.cls ∈ hw_ws ∧ Cond.methodLink own index x ∈ hw_ws ∧ Cond.selects C x y ∈ hw_ws ∧ Cond.instanceMethod y ∈ hw_ws ∧ (C, x, y) ∈ hw_lF
section HWR2
variable {p : Program} {l : Launch} {e : Env} {R : Room} {s : State} {m : MethodId} {args : Array Value} {below : List Frame} {meth : Method} {c : Code} {H : Heap} {locs : List Loc} {cells slots : Nat} {Q : State → Prop}
variable {cc : ByteArray} {pc : Nat} {ls : Array Slot} {rest st0 : List Value} {Z : hw_Z} {M : hw_M} {a : Nat}
theorem hw_gets0 (hexec : p.tables.exec = Jvm.exec) (hb : c.code = cc) {own : String} {index : Nat} (hts : ∀ w ∈ hw_ws, w.before args s = true) (hown : s.vm.findClass own = some m.cls) (hk : hw_kk Z s) (hI : hw_iv Z s M H locs) (hlink : Cond.fieldLink own index "java/util/ArrayList" "DEFAULTCAPACITY_EMPTY_ELEMENTDATA" "[Ljava/lang/Object;" ∈ hw_ws) (hdg : decode cc pc = .ok (.getstatic index, 3))
    (kk : W p l e R s m args below meth c H locs cells slots Q (F0 m (pc + 3) ls (.ref Z.2.2.2 :: rest))) : W p l e R s m args below meth c H locs cells slots Q (F0 m pc ls rest) :=
  va_gets hexec hb hk.2.2.2.1 hI.2.1 hown (hts _ hlink) (fun _ hx => hx) hdg kk
theorem hw_len0 (hexec : p.tables.exec = Jvm.exec) (hb : c.code = cc) (hk : hw_kk Z s) (hI : hw_iv Z s M H locs) (hdg : decode cc pc = .ok (.arraylength, 1))
    (kk : W p l e R s m args below meth c H locs cells slots Q (F0 m (pc + 1) ls (.int (nI 0) :: rest))) : W p l e R s m args below meth c H locs cells slots Q (F0 m pc ls (.ref Z.2.2.2 :: rest)) :=
  va_tlen hexec hb hk.2.2.2.2.1 hI.2.1 rfl hdg kk
theorem hw_acmpT (hexec : p.tables.exec = Jvm.exec) (hb : c.code = cc) {off : Int} {tgt : Nat} (hdg : decode cc pc = .ok (.if_acmp .eq off, 3)) (ht : (pc : Int) + off = (tgt : Int))
    (kt : W p l e R s m args below meth c H locs cells slots Q (F0 m tgt ls rest)) : W p l e R s m args below meth c H locs cells slots Q (F0 m pc ls (.ref a :: .ref a :: rest)) :=
  lv_acmp_eq (rx := some a) (ry := some a) hexec hb hdg ht (fun _ => kt) (fun h => absurd rfl h)
theorem hw_cast (hexec : p.tables.exec = Jvm.exec) (hb : c.code = cc) {own : String} {index ci : Nat} {fs : List Value} {r : vw_C} (hts : ∀ w ∈ hw_ws, w.before args s = true) (hown : s.vm.findClass own = some m.cls) (hk : hw_kk Z s) (hI : hw_iv Z s M H locs) (he : M a = hw_ob ci fs) (hc : vwCl[ci]? = some r) (hlink : Cond.classLink own index r.1 ∈ hw_ws) (hdg : decode cc pc = .ok (.checkcast index, 3))
    (kk : W p l e R s m args below meth c H locs cells slots Q (F0 m (pc + 3) ls (.ref a :: rest))) : W p l e R s m args below meth c H locs cells slots Q (F0 m pc ls (.ref a :: rest)) :=
  va_castS hexec hb hown (hts _ hlink) (hk.1.1 ci r hc).2 (hI.recv hk he hc) hdg kk
theorem hw_castI (hexec : p.tables.exec = Jvm.exec) (hb : c.code = cc) {own : String} {index n : Nat} {f : Nat → Int32} (hts : ∀ w ∈ hw_ws, w.before args s = true) (hown : s.vm.findClass own = some m.cls) (hk : hw_kk Z s) (hI : hw_iv Z s M H locs) (he : M a = hw_ai Z n f) (hlink : Cond.classLink own index "[I" ∈ hw_ws) (hdg : decode cc pc = .ok (.checkcast index, 3))
    (kk : W p l e R s m args below meth c H locs cells slots Q (F0 m (pc + 3) ls (.ref a :: rest))) : W p l e R s m args below meth c H locs cells slots Q (F0 m pc ls (.ref a :: rest)) :=
  va_castA hexec hb hown (hts _ hlink) (hI.1.P1 he) 0 rfl (hk.1.2 0 _ rfl).2 hdg kk
/-- an int array into an array of objects -/
theorem hw_aastI (hexec : p.tables.exec = Jvm.exec) (hb : c.code = cc) (hk : hw_kk Z s) (hI : hw_iv Z s M H locs) {n v n' : Nat} {f : Nat → Option Nat} {g : Nat → Int32} (he : M a = hw_ar Z 7 n f) (hv : M v = hw_ai Z n' g) {i : Int32} {j : Nat} (hi : i = nI j) (hj : j < n) (hn : n < 2 ^ 31) (hdg : decode cc pc = .ok (.aastore, 1))
    (kk : ∀ (H1 : Heap) (locs1 : List Loc), hw_iv Z s (va_up M a (hw_ar Z 7 n (va_up f j (some v)))) H1 locs1 → W p l e R s m args below meth c H1 locs1 cells slots Q (F0 m (pc + 1) ls rest)) : W p l e R s m args below meth c H locs cells slots Q (F0 m pc ls (.ref v :: .int i :: .ref a :: rest)) := by
  obtain ⟨q0, hq0⟩ := hw_Lget hI.1 he
  have hcl : s.vm.findClass "[I" = some (Z.2.1 0) := (hk.1.2 0 _ rfl).2
  obtain ⟨kC, hkC, -⟩ := Vm.findClass_spec hcl
  have hany : va_Any "java/lang/Object" s H v := by
    obtain ⟨c0, t0, f1, f2, f3⟩ := Cond.castable_spec (va_Nw.use (A := args) rfl (hk.2.2.2.2.2.2.1 ("[I", "java/lang/Object") (by decide +kernel)))
    cases hcl.symm.trans f1
    refine ⟨_, (hI.1 v _ hv).2, rfl, ⟨kC, hkC⟩, fun comp h => ?_⟩
    cases f2.symm.trans h
    exact f3
  refine va_astqM hexec hb hk.1 (hw_LP hI.1) (hw_LD hI.1) hI.2.1 q0 7 hq0 rfl hany (hw_in hi hj hn) hdg (fun H1 locs1 g1 _ g3 => kk H1 locs1 (hI.set hq0 ?_ g3))
  rw [hw_cl hi hj hn] at g1
  exact g1
theorem hw_rF {x y : MethodName} {bytes : ByteArray} {maxL nL mc ms n index count : Nat} {ret : Option FieldType} {rm : Room} {Qc : Array Value → State → Outcome → State → Prop} {own C : String} {b : Nat} {As : List Value} (hx : p.tables.exec = Jvm.exec) (hb : c.code = cc) (hml : c.maxLocals = nL) (hown : s.vm.findClass own = some m.cls) (hts : ∀ w ∈ hw_ws, w.before args s = true) (hk : hw_kk Z s) (hI : hw_iv Z s M H locs) (hM : Met l y (hw_m y bytes maxL ret) rm (va_Pc (.ref b :: As) (hw_P Z M)) Qc mc ms (hw_A Z)) (hcv : hw_CF own index C x y bytes maxL ret n) {ci : Nat} {fs : List Value} {r : vw_C} (he : M b = hw_ob ci fs) (hc : vwCl[ci]? = some r) (hC : r.1 = C) (hr : rm.cells = mc ∧ rm.slots = ms) (hR : rm.frames + 1 ≤ R.frames ∧ 8 + (maxL + 11) + rm.locals ≤ R.locals)
    (hn : As.length = n) (hsz : ls.size = nL) (hst : st0 = As.reverse ++ .ref b :: rest) (hW : (rest.map fun v => v.category).sum ≤ 8) (hf : cells + mc ≤ R.cells ∧ slots + ms ≤ R.slots) (hdg : decode cc pc = .ok (.invokeinterface index count, 5)) :
    va_Run5 p l e R s m args below meth c H locs cells slots mc ms (F0 m pc ls st0) rest (Qc (Value.ref b :: As).toArray) (hw_A Z) := by
  have hp := hw_pv (As := As) hk hI he hc
  have hat := (hk.1.1 ci r hc).2
  rw [hC] at hp hat
  obtain ⟨h1, h2, h3, h4, h5, h6, h7⟩ := hcv
  have hG : GoodIn hw_ws (va_wsF own index C x y (hw_m y bytes maxL ret)) := hw_gc h4 (hw_gc h5 (hw_gc h6 (hw_gc h3 (hw_gm h2))))
  exact va_runF (As := As) (rest := rest) hat ⟨hx, hb, hml, hown, hts⟩ hM (va_cwF n hts hG rfl hr.1 hr.2 (hk.2.2.2.2.2.2.2.2.2.1 _ h7).2 h1 hR) hp rfl hn hsz hst (lv_room hW) hdg hf
theorem hw_cFi {mc ms : Nat} {av : Array Value} {RR : Int32 → hw_M → Prop} (hI : hw_iv Z s M H locs) (hr : va_Run5 p l e R s m args below meth c H locs cells slots mc ms (F0 m pc ls st0) rest (hw_Qi Z RR av) (hw_A Z))
    (kk : ∀ (r : Int32) (M1 : hw_M) (H1 : Heap) (locs1 : List Loc), RR r M1 → hw_iv Z s M1 H1 locs1 → W p l e R s m args below meth c H1 locs1 (cells + mc) (slots + ms) Q (F0 m (pc + 5) ls (.int r :: rest))) : W p l e R s m args below meth c H locs cells slots Q (F0 m pc ls st0) :=
  va_callFi hr hI.2.1 (fun _ _ h => h) (fun _ h => h) (fun r u t H1 locs1 ht _ hw hB _ _ hS => kk r u H1 locs1 hw ⟨by rw [← ht]; exact hB, hS, hI.2.2⟩)
theorem hw_cFr {mc ms : Nat} {av : Array Value} {RR : Nat → hw_M → Prop} (hI : hw_iv Z s M H locs) (hr : va_Run5 p l e R s m args below meth c H locs cells slots mc ms (F0 m pc ls st0) rest (hw_Qr Z RR av) (hw_A Z))
    (kk : ∀ (r : Nat) (M1 : hw_M) (H1 : Heap) (locs1 : List Loc), RR r M1 → hw_iv Z s M1 H1 locs1 → W p l e R s m args below meth c H1 locs1 (cells + mc) (slots + ms) Q (F0 m (pc + 5) ls (.ref r :: rest))) : W p l e R s m args below meth c H locs cells slots Q (F0 m pc ls st0) :=
  va_callFr hr hI.2.1 (fun _ _ h => h) (fun _ h => h) (fun u r t H1 locs1 ht _ _ hB _ _ hS => kk r u H1 locs1 hB.2 ⟨by rw [← ht]; exact hB.1, hS, hI.2.2⟩)
end HWR2
