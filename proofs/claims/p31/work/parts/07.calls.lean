/-! Methods: their start, their ends, their calls, their throws, over a world. -/
def hw_cx (p : Program) (s : State) (m : MethodId) (args : Array Value) (meth : Method) (c : Code) (y : MethodName) (cc : ByteArray) (nL : Nat) (ret : Option FieldType) (Z : hw_Z) : Prop :=
  p.tables.exec = Jvm.exec ∧ c.code = cc ∧ meth.sig.returnType = ret ∧ c.maxLocals = nL ∧ s.vm.findClass y.cls = some m.cls ∧ (∀ w ∈ hw_ws, w.before args s = true) ∧ hw_kk Z s ∧ meth.locks = false ∧ meth.name = y.name
abbrev hw_Qi (Z : hw_Z) (RR : Int32 → hw_M → Prop) : Array Value → State → Outcome → State → Prop := va_Qi RR (hw_B Z) (hw_A Z)
abbrev hw_Ql (Z : hw_Z) (RR : Int64 → hw_M → Prop) : Array Value → State → Outcome → State → Prop := va_Ql RR (hw_B Z) (hw_A Z)
abbrev hw_Qd (Z : hw_Z) (RR : UInt64 → hw_M → Prop) : Array Value → State → Outcome → State → Prop := va_Qd RR (hw_B Z) (hw_A Z)
abbrev hw_Qv (Z : hw_Z) (RR : hw_M → Prop) : Array Value → State → Outcome → State → Prop := va_Qv RR (hw_B Z) (hw_A Z)
abbrev hw_Qr (Z : hw_Z) (RR : Nat → hw_M → Prop) : Array Value → State → Outcome → State → Prop := va_Qr (S := hw_M) (fun _ => True) (fun M1 a t => hw_B Z M1 t ∧ RR a M1) (hw_A Z)
abbrev hw_X (Z : hw_Z) (XR : String → hw_M → Prop) : String → State → State → Prop := vx_X (S := hw_M) (fun _ => True) (fun E M1 t => hw_B Z M1 t ∧ XR E M1) (hw_A Z)
theorem hw_of {l : Launch} {y : MethodName} {cc : ByteArray} {maxL : Nat} {ret : Option FieldType} {rm : Room} {mc ms : Nat} {Z : hw_Z} {M : hw_M} {av : List Value} {Qc : Array Value → State → Outcome → State → Prop} {free : Addr → Prop} (hy : plainName y.cls = true) (hlen : (lg_sl av).length ≤ maxL)
    (body : ∀ (p : Program) (e : Env) (s : State) (m : MethodId) (below : List Frame) (meth : Method) (c : Code) (ls : Array Slot), hw_cx p s m av.toArray meth c y cc maxL ret Z → hw_iv Z s M s.heap [] → lv_has ls maxL (lv_args 0 av) → W p l e rm s m av.toArray below meth c s.heap [] 0 0 (MQ below Qc av.toArray s mc ms free) (F0 m 0 ls [])) :
    Met l y (hw_m y cc maxL ret) rm (va_Pc av (hw_P Z M)) Qc mc ms free := by
  refine Met.ofW (cc := cc) (maxL := maxL) (ret := ret) hy rfl ?_
  intro p e s m args below meth c s₁ B hml hv
  obtain ⟨rfl, hk, hw, hb0⟩ := hv
  have hts := atoms_spec (ws := hw_m y cc maxL ret) B.pre
  rw [lg_entry_eq]
  exact body p e s m below meth c _ ⟨B.exec, B.bytes, B.returns, hml, findClass_of_methodNamed B.named, fun w h => hts w (List.mem_cons_of_mem _ h), hk, B.notSynchronized, (name_of_methodNamed B.named B.method).1⟩ ⟨hw, va_S.rf, hb0⟩ (lv_entry av hlen)
theorem hw_xof {l : Launch} {y : MethodName} {cc : ByteArray} {maxL : Nat} {ret : Option FieldType} {rm : Room} {mc ms : Nat} {Z : hw_Z} {M : hw_M} {av : List Value} {Qc : Array Value → State → Outcome → State → Prop} {XC : String → State → State → Prop} {free : Addr → Prop} (hy : plainName y.cls = true) (hlen : (lg_sl av).length ≤ maxL)
    (body : ∀ (p : Program) (e : Env) (s : State) (m : MethodId) (below : List Frame) (meth : Method) (c : Code) (ls : Array Slot), hw_cx p s m av.toArray meth c y cc maxL ret Z → (∀ x ∈ c.exceptionTable.toList, False) → hw_iv Z s M s.heap [] → lv_has ls maxL (lv_args 0 av) → W p l e rm s m av.toArray below meth c s.heap [] 0 0 (vx_MQ below Qc XC av.toArray s mc ms free) (F0 m 0 ls [])) :
    vx_Met l y (hw_m y cc maxL ret) rm (va_Pc av (hw_P Z M)) Qc XC mc ms free := by
  refine vx_ofW (cc := cc) (maxL := maxL) (ret := ret) hy rfl ?_
  intro p e s m args below meth c s₁ B hml hnt hv
  obtain ⟨rfl, hk, hw, hb0⟩ := hv
  have hts := atoms_spec (ws := hw_m y cc maxL ret) B.pre
  rw [lg_entry_eq]
  exact body p e s m below meth c _ ⟨B.exec, B.bytes, B.returns, hml, findClass_of_methodNamed B.named, fun w h => hts w (List.mem_cons_of_mem _ h), hk, B.notSynchronized, (name_of_methodNamed B.named B.method).1⟩ hnt ⟨hw, va_S.rf, hb0⟩ (lv_entry av hlen)
/-- a call's words -/
def hw_CB (own : String) (index : Nat) (y : MethodName) (bytes : ByteArray) (maxL : Nat) (ret : Option FieldType) (n : Nat) : Prop :=
  (y.cls ≠ "java/lang/invoke/MethodHandle" ∧ y.cls ≠ "java/lang/invoke/VarHandle" ∧ (parseMethodDescriptor y.desc).map (fun d => d.parameters.length) = some n) ∧ Cond.code y bytes maxL ret ∈ hw_ws ∧ Cond.initialized y.cls ∈ hw_ws
def hw_CV (own : String) (index : Nat) (y : MethodName) (bytes : ByteArray) (maxL : Nat) (ret : Option FieldType) (n : Nat) : Prop := hw_CB own index y bytes maxL ret n ∧ Cond.methodLink own index y ∈ hw_ws ∧ Cond.instanceMethod y ∈ hw_ws ∧ Cond.selects y.cls y y ∈ hw_ws
def hw_CS (own : String) (index : Nat) (y : MethodName) (bytes : ByteArray) (maxL : Nat) (ret : Option FieldType) (n : Nat) : Prop := hw_CB own index y bytes maxL ret n ∧ Cond.methodLink own index y ∈ hw_ws ∧ Cond.static y ∈ hw_ws
def hw_CI (own : String) (index : Nat) (y : MethodName) (bytes : ByteArray) (maxL : Nat) (n : Nat) : Prop := hw_CB own index y bytes maxL none n ∧ Cond.methodLink own index y ∈ hw_ws ∧ Cond.instanceMethod y ∈ hw_ws ∧ y.name = "<init>"
def hw_CSN (own : String) (index : Nat) (y : MethodName) (host : String) (bytes : ByteArray) (maxL : Nat) (ret : Option FieldType) (n : Nat) : Prop := hw_CB own index y bytes maxL ret n ∧ (own, index, y, host) ∈ hw_lN ∧ Cond.static y ∈ hw_ws
def hw_CIN (own : String) (index : Nat) (y : MethodName) (host : String) (bytes : ByteArray) (maxL : Nat) (n : Nat) : Prop := hw_CB own index y bytes maxL none n ∧ (own, index, y, host) ∈ hw_lN ∧ Cond.instanceMethod y ∈ hw_ws ∧ y.name = "<init>"
def hw_TH (own : String) (ik is ic : Nat) (cls text : String) : Prop :=
  Bundle.fit cls = true ∧ Cond.classLink own ik cls ∈ hw_ws ∧ Cond.initialized cls ∈ hw_ws ∧ (own, is, text) ∈ hw_lS ∧ (∀ w ∈ (vx_atS own ic cls ["java/lang/RuntimeException", "java/lang/Exception"]).filter goodWord, w ∈ hw_ws) ∧
  (∀ w ∈ (vx_atS own ic cls ["java/lang/RuntimeException", "java/lang/Exception"]).filter (fun w => !goodWord w), w ∈ Cond.castable cls cls :: hw_lD.map Cond.declares) ∧ (cls, cls) ∈ hw_lC ∧ (∀ w ∈ Cond.classLink own ik cls :: Cond.initialized cls :: vx_atS own ic cls ["java/lang/RuntimeException", "java/lang/Exception"], vx_ot w = true)
theorem hw_wd.keep {Z : hw_Z} {M : hw_M} {H H1 : Heap} (h : hw_wd Z M H) (hq : ∀ q : Nat, q < H.size → H1[q]? = H[q]?) : hw_wd Z M H1 := fun a e he => ⟨(h a e he).1, (h a e he).2.kept (hq a (h.lt he))⟩
section HWC
variable {p : Program} {l : Launch} {e : Env} {R : Room} {s : State} {m : MethodId} {args : Array Value} {below : List Frame} {meth : Method} {c : Code} {H : Heap} {locs : List Loc} {cells slots : Nat} {Q : State → Prop}
variable {cc : ByteArray} {pc : Nat} {ls : Array Slot} {rest st0 : List Value} {Z : hw_Z} {M : hw_M}
variable {y : MethodName} {bytes : ByteArray} {maxL nL mc ms n index : Nat} {ret : Option FieldType} {rm : Room} {Qc : Array Value → State → Outcome → State → Prop} {own : String} {b : Nat} {As : List Value}
theorem hw_B.cb (hts : ∀ w ∈ hw_ws, w.before args s = true) (h : hw_CB own index y bytes maxL ret n) (hl : Cond.methodLink own index y ∈ hw_ws) (hr : rm.cells = mc ∧ rm.slots = ms) (hR : rm.frames + 1 ≤ R.frames ∧ 8 + (maxL + 11) + rm.locals ≤ R.locals) : CallB R s args own index y bytes maxL ret (hw_m y bytes maxL ret) rm mc ms n :=
  callB_of n hts (hw_gm h.2.1) rfl hr.1 hr.2 (hts _ h.2.2) (hts _ hl) h.1 hR
theorem hw_pv (hk : hw_kk Z s) (hI : hw_iv Z s M H locs) {ci : Nat} {fs : List Value} {r : vw_C} (he : M b = hw_ob ci fs) (hc : vwCl[ci]? = some r) : PreV s H r.1 b (va_Pc (.ref b :: As) (hw_P Z M)) As := ⟨hw_blind, hI.recv hk he hc, fun _ hU hW => ⟨rfl, hI.P hk hU hW⟩⟩
theorem hw_ps (hk : hw_kk Z s) (hI : hw_iv Z s M H locs) : PreS s H (va_Pc As (hw_P Z M)) As := ⟨hw_blind, fun _ hU hW => ⟨rfl, hI.P hk hU hW⟩⟩
theorem hw_rV (hx : p.tables.exec = Jvm.exec) (hb : c.code = cc) (hml : c.maxLocals = nL) (hown : s.vm.findClass own = some m.cls) (hts : ∀ w ∈ hw_ws, w.before args s = true) (hk : hw_kk Z s) (hI : hw_iv Z s M H locs) (hM : Met l y (hw_m y bytes maxL ret) rm (va_Pc (.ref b :: As) (hw_P Z M)) Qc mc ms (hw_A Z)) (hcv : hw_CV own index y bytes maxL ret n) {ci : Nat} {fs : List Value} {r : vw_C} (he : M b = hw_ob ci fs) (hc : vwCl[ci]? = some r) (hC : r.1 = y.cls) (hr : rm.cells = mc ∧ rm.slots = ms) (hR : rm.frames + 1 ≤ R.frames ∧ 8 + (maxL + 11) + rm.locals ≤ R.locals)
    (hn : As.length = n) (hsz : ls.size = nL) (hst : st0 = As.reverse ++ .ref b :: rest) (hW : (rest.map fun v => v.category).sum ≤ 8) (hf : cells + mc ≤ R.cells ∧ slots + ms ≤ R.slots) (hdg : decode cc pc = .ok (.invokevirtual index, 3)) :
    va_Run p l e R s m args below meth c H locs cells slots mc ms (F0 m pc ls st0) rest (Qc (Value.ref b :: As).toArray) (hw_A Z) := by
  have hp := hw_pv (As := As) hk hI he hc
  rw [hC] at hp
  exact va_runV (As := As) (rest := rest) ⟨hx, hb, hml, hown, hts⟩ hM ⟨hw_B.cb hts hcv.1 hcv.2.1 hr hR, hts _ hcv.2.2.1, hts _ hcv.2.2.2⟩ hp rfl hn hsz hst (lv_room hW) hdg hf
theorem hw_rS (hx : p.tables.exec = Jvm.exec) (hb : c.code = cc) (hml : c.maxLocals = nL) (hown : s.vm.findClass own = some m.cls) (hts : ∀ w ∈ hw_ws, w.before args s = true) (hk : hw_kk Z s) (hI : hw_iv Z s M H locs) (hM : Met l y (hw_m y bytes maxL ret) rm (va_Pc As (hw_P Z M)) Qc mc ms (hw_A Z)) (hcv : hw_CS own index y bytes maxL ret n) (hr : rm.cells = mc ∧ rm.slots = ms) (hR : rm.frames + 1 ≤ R.frames ∧ 8 + (maxL + 11) + rm.locals ≤ R.locals)
    (hn : As.length = n) (hsz : ls.size = nL) (hst : st0 = As.reverse ++ rest) (hW : (rest.map fun v => v.category).sum ≤ 8) (hf : cells + mc ≤ R.cells ∧ slots + ms ≤ R.slots) (hdg : decode cc pc = .ok (.invokestatic index, 3)) :
    va_Run p l e R s m args below meth c H locs cells slots mc ms (F0 m pc ls st0) rest (Qc As.toArray) (hw_A Z) :=
  va_runS (As := As) (rest := rest) ⟨hx, hb, hml, hown, hts⟩ hM ⟨hw_B.cb hts hcv.1 hcv.2.1 hr hR, hts _ hcv.2.2⟩ (hw_ps hk hI) rfl hn hsz hst (lv_room hW) hdg hf
theorem hw_rI (hx : p.tables.exec = Jvm.exec) (hb : c.code = cc) (hml : c.maxLocals = nL) (hown : s.vm.findClass own = some m.cls) (hts : ∀ w ∈ hw_ws, w.before args s = true) (hk : hw_kk Z s) (hI : hw_iv Z s M H locs) (hM : Met l y (hw_m y bytes maxL none) rm (va_Pc (.ref b :: As) (hw_P Z M)) Qc mc ms (hw_A Z)) (hcv : hw_CI own index y bytes maxL n) (hr : rm.cells = mc ∧ rm.slots = ms) (hR : rm.frames + 1 ≤ R.frames ∧ 8 + (maxL + 11) + rm.locals ≤ R.locals)
    (hn : As.length = n) (hsz : ls.size = nL) (hst : st0 = As.reverse ++ .ref b :: rest) (hW : (rest.map fun v => v.category).sum ≤ 8) (hf : cells + mc ≤ R.cells ∧ slots + ms ≤ R.slots) (hdg : decode cc pc = .ok (.invokespecial index, 3)) :
    va_Run p l e R s m args below meth c H locs cells slots mc ms (F0 m pc ls st0) rest (Qc (Value.ref b :: As).toArray) (hw_A Z) :=
  va_runI (As := As) (rest := rest) ⟨hx, hb, hml, hown, hts⟩ hM ⟨hw_B.cb hts hcv.1 hcv.2.1 hr hR, hcv.2.2.2, hts _ hcv.2.2.1⟩ (hw_ps hk hI) rfl hn hsz hst (lv_room hW) hdg hf
theorem hw_rSN {host : String} (hx : p.tables.exec = Jvm.exec) (hb : c.code = cc) (hml : c.maxLocals = nL) (hown : s.vm.findClass own = some m.cls) (hts : ∀ w ∈ hw_ws, w.before args s = true) (hk : hw_kk Z s) (hI : hw_iv Z s M H locs) (hM : Met l y (hw_m y bytes maxL ret) rm (va_Pc As (hw_P Z M)) Qc mc ms (hw_A Z)) (hcv : hw_CSN own index y host bytes maxL ret n) (hr : rm.cells = mc ∧ rm.slots = ms) (hR : rm.frames + 1 ≤ R.frames ∧ 8 + (maxL + 11) + rm.locals ≤ R.locals)
    (hn : As.length = n) (hsz : ls.size = nL) (hst : st0 = As.reverse ++ rest) (hW : (rest.map fun v => v.category).sum ≤ 8) (hf : cells + mc ≤ R.cells ∧ slots + ms ≤ R.slots) (hdg : decode cc pc = .ok (.invokestatic index, 3)) :
    va_Run p l e R s m args below meth c H locs cells slots mc ms (F0 m pc ls st0) rest (Qc As.toArray) (hw_A Z) :=
  va_runSN (As := As) (rest := rest) ⟨hx, hb, hml, hown, hts⟩ hM ⟨va_cnB n hts (hw_gm hcv.1.2.1) rfl hr.1 hr.2 (hk.2.2.2.2.2.1 _ hcv.2.1) (hts _ hcv.1.2.2) hcv.1.1 hR, hts _ hcv.2.2, trivial⟩ (hw_ps hk hI) rfl hn hsz hst (lv_room hW) hdg hf
theorem hw_rIN {host : String} (hx : p.tables.exec = Jvm.exec) (hb : c.code = cc) (hml : c.maxLocals = nL) (hown : s.vm.findClass own = some m.cls) (hts : ∀ w ∈ hw_ws, w.before args s = true) (hk : hw_kk Z s) (hI : hw_iv Z s M H locs) (hM : Met l y (hw_m y bytes maxL none) rm (va_Pc (.ref b :: As) (hw_P Z M)) Qc mc ms (hw_A Z)) (hcv : hw_CIN own index y host bytes maxL n) (hr : rm.cells = mc ∧ rm.slots = ms) (hR : rm.frames + 1 ≤ R.frames ∧ 8 + (maxL + 11) + rm.locals ≤ R.locals)
    (hn : As.length = n) (hsz : ls.size = nL) (hst : st0 = As.reverse ++ .ref b :: rest) (hW : (rest.map fun v => v.category).sum ≤ 8) (hf : cells + mc ≤ R.cells ∧ slots + ms ≤ R.slots) (hdg : decode cc pc = .ok (.invokespecial index, 3)) :
    va_Run p l e R s m args below meth c H locs cells slots mc ms (F0 m pc ls st0) rest (Qc (Value.ref b :: As).toArray) (hw_A Z) :=
  va_runIN (As := As) (rest := rest) ⟨hx, hb, hml, hown, hts⟩ hM ⟨va_cnB n hts (hw_gm hcv.1.2.1) rfl hr.1 hr.2 (hk.2.2.2.2.2.1 _ hcv.2.1) (hts _ hcv.1.2.2) hcv.1.1 hR, hcv.2.2.2, hts _ hcv.2.2.1⟩ (hw_ps hk hI) rfl hn hsz hst (lv_room hW) hdg hf
theorem hw_xV {XC : String → State → State → Prop} (hx : p.tables.exec = Jvm.exec) (hb : c.code = cc) (hml : c.maxLocals = nL) (hown : s.vm.findClass own = some m.cls) (hts : ∀ w ∈ hw_ws, w.before args s = true) (hk : hw_kk Z s) (hI : hw_iv Z s M H locs) (hM : vx_Met l y (hw_m y bytes maxL ret) rm (va_Pc (.ref b :: As) (hw_P Z M)) Qc XC mc ms (hw_A Z)) (hcv : hw_CV own index y bytes maxL ret n) {ci : Nat} {fs : List Value} {r : vw_C} (he : M b = hw_ob ci fs) (hc : vwCl[ci]? = some r) (hC : r.1 = y.cls) (hr : rm.cells = mc ∧ rm.slots = ms) (hR : rm.frames + 1 ≤ R.frames ∧ 8 + (maxL + 11) + rm.locals ≤ R.locals)
    (hn : As.length = n) (hsz : ls.size = nL) (hst : st0 = As.reverse ++ .ref b :: rest) (hW : (rest.map fun v => v.category).sum ≤ 8) (hf : cells + mc ≤ R.cells ∧ slots + ms ≤ R.slots) (hdg : decode cc pc = .ok (.invokevirtual index, 3)) :
    vx_Run p l e R s m args below meth c H locs cells slots mc ms (F0 m pc ls st0) rest (Qc (Value.ref b :: As).toArray) XC (hw_A Z) := by
  have hp := hw_pv (As := As) hk hI he hc
  rw [hC] at hp
  exact vx_runV (As := As) (rest := rest) ⟨hx, hb, hml, hown, hts⟩ hM ⟨hw_B.cb hts hcv.1 hcv.2.1 hr hR, hts _ hcv.2.2.1, hts _ hcv.2.2.2⟩ hp rfl hn hsz hst (lv_room hW) hdg hf
theorem hw_xS {XC : String → State → State → Prop} (hx : p.tables.exec = Jvm.exec) (hb : c.code = cc) (hml : c.maxLocals = nL) (hown : s.vm.findClass own = some m.cls) (hts : ∀ w ∈ hw_ws, w.before args s = true) (hk : hw_kk Z s) (hI : hw_iv Z s M H locs) (hM : vx_Met l y (hw_m y bytes maxL ret) rm (va_Pc As (hw_P Z M)) Qc XC mc ms (hw_A Z)) (hcv : hw_CS own index y bytes maxL ret n) (hr : rm.cells = mc ∧ rm.slots = ms) (hR : rm.frames + 1 ≤ R.frames ∧ 8 + (maxL + 11) + rm.locals ≤ R.locals)
    (hn : As.length = n) (hsz : ls.size = nL) (hst : st0 = As.reverse ++ rest) (hW : (rest.map fun v => v.category).sum ≤ 8) (hf : cells + mc ≤ R.cells ∧ slots + ms ≤ R.slots) (hdg : decode cc pc = .ok (.invokestatic index, 3)) :
    vx_Run p l e R s m args below meth c H locs cells slots mc ms (F0 m pc ls st0) rest (Qc As.toArray) XC (hw_A Z) :=
  vx_runS (As := As) (rest := rest) ⟨hx, hb, hml, hown, hts⟩ hM ⟨hw_B.cb hts hcv.1 hcv.2.1 hr hR, hts _ hcv.2.2⟩ (hw_ps hk hI) rfl hn hsz hst (lv_room hW) hdg hf
-- behind a call
variable {av : Array Value}
theorem hw_ci {RR : Int32 → hw_M → Prop} (hI : hw_iv Z s M H locs) (hr : va_Run p l e R s m args below meth c H locs cells slots mc ms (F0 m pc ls st0) rest (hw_Qi Z RR av) (hw_A Z))
    (kk : ∀ (r : Int32) (M1 : hw_M) (H1 : Heap) (locs1 : List Loc), RR r M1 → hw_iv Z s M1 H1 locs1 → W p l e R s m args below meth c H1 locs1 (cells + mc) (slots + ms) Q (F0 m (pc + 3) ls (.int r :: rest))) : W p l e R s m args below meth c H locs cells slots Q (F0 m pc ls st0) :=
  va_calli hr hI.2.1 (fun _ _ h => h) (fun _ h => h) (fun r u t H1 locs1 ht _ hw hB _ _ hS => kk r u H1 locs1 hw ⟨by rw [← ht]; exact hB, hS, hI.2.2⟩)
theorem hw_cl' {RR : Int64 → hw_M → Prop} (hI : hw_iv Z s M H locs) (hr : va_Run p l e R s m args below meth c H locs cells slots mc ms (F0 m pc ls st0) rest (hw_Ql Z RR av) (hw_A Z))
    (kk : ∀ (r : Int64) (M1 : hw_M) (H1 : Heap) (locs1 : List Loc), RR r M1 → hw_iv Z s M1 H1 locs1 → W p l e R s m args below meth c H1 locs1 (cells + mc) (slots + ms) Q (F0 m (pc + 3) ls (.long r :: rest))) : W p l e R s m args below meth c H locs cells slots Q (F0 m pc ls st0) :=
  va_calll hr hI.2.1 (fun _ _ h => h) (fun _ h => h) (fun r u t H1 locs1 ht _ hw hB _ _ hS => kk r u H1 locs1 hw ⟨by rw [← ht]; exact hB, hS, hI.2.2⟩)
theorem hw_cd {RR : UInt64 → hw_M → Prop} (hI : hw_iv Z s M H locs) (hr : va_Run p l e R s m args below meth c H locs cells slots mc ms (F0 m pc ls st0) rest (hw_Qd Z RR av) (hw_A Z))
    (kk : ∀ (r : UInt64) (M1 : hw_M) (H1 : Heap) (locs1 : List Loc), RR r M1 → hw_iv Z s M1 H1 locs1 → W p l e R s m args below meth c H1 locs1 (cells + mc) (slots + ms) Q (F0 m (pc + 3) ls (.double r :: rest))) : W p l e R s m args below meth c H locs cells slots Q (F0 m pc ls st0) :=
  va_calld hr hI.2.1 (fun _ _ h => h) (fun _ h => h) (fun r u t H1 locs1 ht _ hw hB _ _ hS => kk r u H1 locs1 hw ⟨by rw [← ht]; exact hB, hS, hI.2.2⟩)
theorem hw_cv {RR : hw_M → Prop} (hI : hw_iv Z s M H locs) (hr : va_Run p l e R s m args below meth c H locs cells slots mc ms (F0 m pc ls st0) rest (hw_Qv Z RR av) (hw_A Z))
    (kk : ∀ (M1 : hw_M) (H1 : Heap) (locs1 : List Loc), RR M1 → hw_iv Z s M1 H1 locs1 → W p l e R s m args below meth c H1 locs1 (cells + mc) (slots + ms) Q (F0 m (pc + 3) ls rest)) : W p l e R s m args below meth c H locs cells slots Q (F0 m pc ls st0) :=
  va_callv hr hI.2.1 (fun _ _ h => h) (fun _ h => h) (fun u t H1 locs1 ht _ hw hB _ _ hS => kk u H1 locs1 hw ⟨by rw [← ht]; exact hB, hS, hI.2.2⟩)
theorem hw_cr {RR : Nat → hw_M → Prop} (hI : hw_iv Z s M H locs) (hr : va_Run p l e R s m args below meth c H locs cells slots mc ms (F0 m pc ls st0) rest (hw_Qr Z RR av) (hw_A Z))
    (kk : ∀ (r : Nat) (M1 : hw_M) (H1 : Heap) (locs1 : List Loc), RR r M1 → hw_iv Z s M1 H1 locs1 → W p l e R s m args below meth c H1 locs1 (cells + mc) (slots + ms) Q (F0 m (pc + 3) ls (.ref r :: rest))) : W p l e R s m args below meth c H locs cells slots Q (F0 m pc ls st0) :=
  va_callr hr hI.2.1 (fun _ _ h => h) (fun _ h => h) (fun u r t H1 locs1 ht _ _ hB _ _ hS => kk r u H1 locs1 hB.2 ⟨by rw [← ht]; exact hB.1, hS, hI.2.2⟩)
end HWC
