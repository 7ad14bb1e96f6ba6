/-! Ends and throws over a world; numbers on the stack under another name. -/
section HWE
variable {p : Program} {l : Launch} {e : Env} {R : Room} {s : State} {m : MethodId} {args : Array Value} {below : List Frame} {meth : Method} {c : Code} {H : Heap} {locs : List Loc} {cells slots : Nat} {Q : State → Prop}
variable {cc : ByteArray} {pc : Nat} {ls : Array Slot} {rest st0 : List Value} {Z : hw_Z} {M : hw_M} {mc ms mc0 ms0 : Nat}
theorem hw_ei {RR : Int32 → hw_M → Prop} {v : Int32} (hx : p.tables.exec = Jvm.exec) (hb : c.code = cc) (hr : meth.sig.returnType = some .int) (hlocks : meth.locks = false) (hI : hw_iv Z s M H locs) (hp : RR v M) (hc : cells ≤ mc) (hs : slots ≤ ms) (hdg : decode cc pc = .ok (.ireturn, 1)) : W p l e R s m args below meth c H locs cells slots (MQ below (hw_Qi Z RR) args s mc ms (hw_A Z)) (F0 m pc ls [.int v]) :=
  W.widen hc hs (W.iret hx hb hr (fun t ht _ => ⟨⟨v, M, rfl, hp, by show hw_wd Z M t.heap; rw [ht]; exact hI.1⟩, hI.2.1.F ht⟩) hI.2.1.2.2 hdg hlocks)
theorem hw_ez {RR : Int32 → hw_M → Prop} {v : Int32} (hx : p.tables.exec = Jvm.exec) (hb : c.code = cc) (hr : meth.sig.returnType = some .boolean) (hlocks : meth.locks = false) (hI : hw_iv Z s M H locs) (hn : v = 0 ∨ v = 1) (hp : RR v M) (hc : cells ≤ mc) (hs : slots ≤ ms) (hdg : decode cc pc = .ok (.ireturn, 1)) : W p l e R s m args below meth c H locs cells slots (MQ below (hw_Qi Z RR) args s mc ms (hw_A Z)) (F0 m pc ls [.int v]) :=
  W.widen hc hs (W.zret hx hb hr (by rcases hn with rfl | rfl <;> rfl) (fun t ht _ => ⟨⟨v, M, rfl, hp, by show hw_wd Z M t.heap; rw [ht]; exact hI.1⟩, hI.2.1.F ht⟩) hI.2.1.2.2 hdg hlocks)
theorem hw_el {RR : Int64 → hw_M → Prop} {v : Int64} (hx : p.tables.exec = Jvm.exec) (hb : c.code = cc) (hr : meth.sig.returnType = some .long) (hlocks : meth.locks = false) (hI : hw_iv Z s M H locs) (hp : RR v M) (hc : cells ≤ mc) (hs : slots ≤ ms) (hdg : decode cc pc = .ok (.lreturn, 1)) : W p l e R s m args below meth c H locs cells slots (MQ below (hw_Ql Z RR) args s mc ms (hw_A Z)) (F0 m pc ls [.long v]) :=
  W.widen hc hs (W.lret hx hb hr (fun t ht _ => ⟨⟨v, M, rfl, hp, by show hw_wd Z M t.heap; rw [ht]; exact hI.1⟩, hI.2.1.F ht⟩) hI.2.1.2.2 hdg hlocks)
theorem hw_ed {RR : UInt64 → hw_M → Prop} {v : UInt64} (hx : p.tables.exec = Jvm.exec) (hb : c.code = cc) (hr : meth.sig.returnType = some .double) (hlocks : meth.locks = false) (hI : hw_iv Z s M H locs) (hp : RR v M) (hc : cells ≤ mc) (hs : slots ≤ ms) (hdg : decode cc pc = .ok (.dreturn, 1)) : W p l e R s m args below meth c H locs cells slots (MQ below (hw_Qd Z RR) args s mc ms (hw_A Z)) (F0 m pc ls [.double v]) :=
  W.widen hc hs (W.dret hx hb hr (fun t ht _ => ⟨⟨v, M, rfl, hp, by show hw_wd Z M t.heap; rw [ht]; exact hI.1⟩, hI.2.1.F ht⟩) hI.2.1.2.2 hdg hlocks)
theorem hw_ev {RR : hw_M → Prop} (hx : p.tables.exec = Jvm.exec) (hb : c.code = cc) (hr : meth.sig.returnType = none) (hlocks : meth.locks = false) (hI : hw_iv Z s M H locs) (hp : RR M) (hc : cells ≤ mc) (hs : slots ≤ ms) (hdg : decode cc pc = .ok (.return_, 1)) : W p l e R s m args below meth c H locs cells slots (MQ below (hw_Qv Z RR) args s mc ms (hw_A Z)) (F0 m pc ls []) :=
  W.widen hc hs (W.vret hx hb hr (fun t ht _ => ⟨⟨M, rfl, hp, by show hw_wd Z M t.heap; rw [ht]; exact hI.1⟩, hI.2.1.F ht⟩) hI.2.1.2.2 hdg hlocks)
theorem hw_er {RR : Nat → hw_M → Prop} {a : Nat} {rt : FieldType} (hx : p.tables.exec = Jvm.exec) (hb : c.code = cc) (hr : meth.sig.returnType = some rt) (hrt : (∃ n, rt = .object n) ∨ ∃ t, rt = .array t) (hlocks : meth.locks = false) (hI : hw_iv Z s M H locs) (hp : RR a M) (hc : cells ≤ mc) (hs : slots ≤ ms) (hdg : decode cc pc = .ok (.areturn, 1)) : W p l e R s m args below meth c H locs cells slots (MQ below (hw_Qr Z RR) args s mc ms (hw_A Z)) (F0 m pc ls [.ref a]) :=
  W.widen hc hs (W.aret hx hb hr hrt (Or.inr ⟨a, rfl⟩) (fun t ht _ => ⟨⟨M, a, rfl, trivial, by show hw_wd Z M t.heap; rw [ht]; exact hI.1, hp⟩, hI.2.1.F ht⟩) hI.2.1.2.2 hdg hlocks)
theorem hw_th0 {own cls text : String} {ik is ic : Nat} (hts : ∀ w ∈ hw_ws, w.before args s = true) (hk : hw_kk Z s) (hth : hw_TH own ik is ic cls text) : ∀ w ∈ vx_atS own ic cls ["java/lang/RuntimeException", "java/lang/Exception"], w.before args s = true := by
  refine vx_hat (fun w hw => hts w (hth.2.2.2.2.1 w hw)) hth.2.2.2.2.2.1 (vx_c (va_Nw.use rfl (hk.2.2.2.2.2.2.1 _ hth.2.2.2.2.2.2.1)) (fun w hw => ?_))
  obtain ⟨y, hy, rfl⟩ := List.mem_map.mp hw
  exact va_Nw.use rfl (hk.2.2.2.2.2.2.2.2.1 y hy)
theorem hw_fitn : ∀ n ∈ ["java/lang/RuntimeException", "java/lang/Exception"], Bundle.fit n = true := by decide +kernel
theorem hw_thx {XR : String → hw_M → Prop} {cls : String} (hI : hw_iv Z s M H locs) (hX : XR cls M) : ∀ t : State, s.vm.Alike t.vm → H.size ≤ t.heap.size → (∀ q : Nat, q < H.size → t.heap[q]? = H[q]?) → hw_X Z XR cls s t :=
  fun t _ hz hq => ⟨M, trivial, ⟨hI.1.keep hq, hX⟩, ⟨Nat.le_trans hI.2.1.1 hz, fun q h1 h2 => by rw [hq q (Nat.lt_of_lt_of_le h1 hI.2.1.1)]; exact hI.2.1.2.1 q h1 h2⟩⟩
theorem hw_throw {Qc : Array Value → State → Outcome → State → Prop} {XR : String → hw_M → Prop} {own cls text : String} {ik is ic : Nat} (hx : p.tables.exec = Jvm.exec) (hb : c.code = cc) (hl : l.stackTraces = false) (hts : ∀ w ∈ hw_ws, w.before args s = true) (hown : s.vm.findClass own = some m.cls) (hk : hw_kk Z s) (hnt : ∀ x ∈ c.exceptionTable.toList, False) (hlocks : meth.locks = false) (hI : hw_iv Z s M H locs) (hth : hw_TH own ik is ic cls text) (hsize : ls.size = c.maxLocals)
    (d0 : decode cc pc = .ok (.new ik, 3)) (d3 : decode cc (pc + 3) = .ok (.dup, 1)) (d4 : decode cc (pc + 4) = .ok (.ldc is, 2)) (d6 : decode cc (pc + 6) = .ok (.invokespecial ic, 3)) (d9 : decode cc (pc + 9) = .ok (.athrow, 1))
    (hRf : 5 < R.frames) (hRl : (rest.map fun v => v.category).sum + 82 ≤ R.locals) (hRc : cells + 1 ≤ R.cells) (hRs : slots + 6 ≤ R.slots) (hX : XR cls M) (hc : cells + 1 ≤ mc) (hs : slots + 6 ≤ ms) :
    W p l e R s m args below meth c H locs cells slots (vx_MQ below Qc (hw_X Z XR) args s mc ms (hw_A Z)) (F0 m pc ls rest) := by
  obtain ⟨sa, hsa⟩ := hk.2.2.2.2.2.2.2.2.2.2.2 _ hth.2.2.2.1
  exact vx_throwS (names := ["java/lang/RuntimeException", "java/lang/Exception"]) hx hb hl hown hth.1 hw_fitn (hts _ hth.2.1) (hts _ hth.2.2.1) hsa (hw_th0 hts hk hth) hth.2.2.2.2.2.2.2 hk.2.1 hk.2.2.1 hI.2.1 hsize d0 d3 d4 d6 d9 (fun x hx => (hnt x hx).elim) hRf hRl hRc hRs hlocks (hw_thx hI hX) hI.2.1.2.2 hc hs
theorem hw_throwW {Qc : Array Value → State → Outcome → State → Prop} {XR : String → hw_M → Prop} {own cls text : String} {ik is ic : Nat} (hx : p.tables.exec = Jvm.exec) (hb : c.code = cc) (hl : l.stackTraces = false) (hts : ∀ w ∈ hw_ws, w.before args s = true) (hown : s.vm.findClass own = some m.cls) (hk : hw_kk Z s) (hnt : ∀ x ∈ c.exceptionTable.toList, False) (hlocks : meth.locks = false) (hI : hw_iv Z s M H locs) (hth : hw_TH own ik is ic cls text) (hsize : ls.size = c.maxLocals)
    (d0 : decode cc pc = .ok (.new ik, 3)) (d3 : decode cc (pc + 3) = .ok (.dup, 1)) (d4 : decode cc (pc + 4) = .ok (.ldc_w is, 3)) (d7 : decode cc (pc + 7) = .ok (.invokespecial ic, 3)) (d10 : decode cc (pc + 10) = .ok (.athrow, 1))
    (hRf : 5 < R.frames) (hRl : (rest.map fun v => v.category).sum + 82 ≤ R.locals) (hRc : cells + 1 ≤ R.cells) (hRs : slots + 6 ≤ R.slots) (hX : XR cls M) (hc : cells + 1 ≤ mc) (hs : slots + 6 ≤ ms) :
    W p l e R s m args below meth c H locs cells slots (vx_MQ below Qc (hw_X Z XR) args s mc ms (hw_A Z)) (F0 m pc ls rest) := by
  obtain ⟨sa, hsa⟩ := hk.2.2.2.2.2.2.2.2.2.2.2 _ hth.2.2.2.1
  exact vx_throwSW (names := ["java/lang/RuntimeException", "java/lang/Exception"]) hx hb hl hown hth.1 hw_fitn (hts _ hth.2.1) (hts _ hth.2.2.1) hsa (hw_th0 hts hk hth) hth.2.2.2.2.2.2.2 hk.2.1 hk.2.2.1 hI.2.1 hsize d0 d3 d4 d7 d10 (fun x hx => (hnt x hx).elim) hRf hRl hRc hRs hlocks (hw_thx hI hX) hI.2.1.2.2 hc hs
/-- the top of the stack under another name -/
theorem hw_ti {x y : Int32} (h : x = y) (k : W p l e R s m args below meth c H locs cells slots Q (F0 m pc ls (.int y :: rest))) : W p l e R s m args below meth c H locs cells slots Q (F0 m pc ls (.int x :: rest)) := by rw [h]; exact k
theorem hw_tl {x y : Int64} (h : x = y) (k : W p l e R s m args below meth c H locs cells slots Q (F0 m pc ls (.long y :: rest))) : W p l e R s m args below meth c H locs cells slots Q (F0 m pc ls (.long x :: rest)) := by rw [h]; exact k
theorem hw_td {x y : UInt64} (h : x = y) (k : W p l e R s m args below meth c H locs cells slots Q (F0 m pc ls (.double y :: rest))) : W p l e R s m args below meth c H locs cells slots Q (F0 m pc ls (.double x :: rest)) := by rw [h]; exact k
/-- a world under another name -/
theorem hw_iv.eq {M1 : hw_M} (hI : hw_iv Z s M H locs) (h : M = M1) : hw_iv Z s M1 H locs := h ▸ hI
end HWE
/-- a counter that goes up to N -/
theorem hw_loop {P : Nat → Prop} {N : Nat} (he : P N) (hs : ∀ i, i < N → P (i + 1) → P i) : ∀ i, i ≤ N → P i := by
  intro i hi
  obtain ⟨k, rfl⟩ : ∃ k, N = i + k := ⟨N - i, by omega⟩
  clear hi
  induction k generalizing i with
  | zero => exact he
  | succ k ih =>
    refine hs i (by omega) ?_
    have := ih (i := i + 1) (by rw [show i + 1 + k = i + (k + 1) by omega]; exact he) (by rw [show i + 1 + k = i + (k + 1) by omega]; exact hs)
    exact this
