/-! The law's own methods: a call of the class, its exceptions caught. -/
abbrev hw_mH (y : MethodName) (cc : ByteArray) (n : Nat) (ret : Option FieldType) (hh : List (Nat × Nat × Nat × Nat)) : List Cond := Cond.codeWith y cc n ret hh :: hw_ws
theorem hw_ofH {l : Launch} {y : MethodName} {own : String} {cc : ByteArray} {maxL : Nat} {rm : Room} {mc ms : Nat} {Z : hw_Z} {M : hw_M} {av : List Value} {RR : Int32 → hw_M → Prop} {hh : List (Nat × Nat × Nat × Nat)} (hy : plainName y.cls = true) (ho : y.cls = own) (hlen : (lg_sl av).length ≤ maxL)
    (body : ∀ (p : Program) (e : Env) (s : State) (m : MethodId) (below : List Frame) (meth : Method) (c : Code) (ls : Array Slot) (Q : State → Prop), p.tables.exec = Jvm.exec → c.code = cc → c.maxLocals = maxL → s.vm.findClass own = some m.cls → (∀ w ∈ hw_ws, w.before av.toArray s = true) → hw_kk Z s → c.exceptionTable.toList = tableOf hh → hw_iv Z s M s.heap [] → lv_has ls maxL (lv_args 0 av) → (∀ {M : hw_M} {H : Heap} {locs : List Loc} {cells slots pc : Nat} {ls : Array Slot} {v : Int32}, hw_iv Z s M H locs → RR v M → cells ≤ mc → slots ≤ ms → decode cc pc = .ok (.ireturn, 1) → W p l e rm s m av.toArray below meth c H locs cells slots Q (F0 m pc ls [.int v])) → W p l e rm s m av.toArray below meth c s.heap [] 0 0 Q (F0 m 0 ls [])) :
    Met l y (hw_mH y cc maxL (some .int) hh) rm (va_Pc av (hw_P Z M)) (hw_Qi Z RR) mc ms (hw_A Z) := by
  have hv : vx_Met l y (hw_mH y cc maxL (some .int) hh) rm (va_Pc av (hw_P Z M)) (hw_Qi Z RR) (fun _ _ _ => False) mc ms (hw_A Z) := by
    refine vx_ofWH (cc := cc) (maxL := maxL) (ret := some .int) (hh := hh) hy rfl ?_
    intro p e s m args below meth c s₁ B hml hv
    obtain ⟨rfl, hk, hw, hb0⟩ := hv
    have hts := atoms_spec (ws := hw_mH y cc maxL (some .int) hh) B.pre
    rw [lg_entry_eq]
    exact body p e s m below meth c _ _ B.exec B.bytes hml (by rw [← ho]; exact findClass_of_methodNamed B.named) (fun w h => hts w (List.mem_cons_of_mem _ h)) hk (vx_table (x := y) B (hts _ List.mem_cons_self)) ⟨hw, va_S.rf, hb0⟩ (lv_entry av hlen) (fun hI hp hc hs hd => vx_ret (hw_ei B.exec B.bytes B.returns B.notSynchronized hI hp hc hs hd))
  intro p e a1 a2 a3 s m args below h1 h2 h3 h4
  obtain ⟨k, o, g1, g2, g3, g4⟩ := hv p e a1 a2 a3 s m args below h1 h2 h3 h4
  refine ⟨k, o, g1, g2, g3, ?_⟩
  rcases g4 with h | ⟨q, _, E, ce, L, hx, _⟩
  · exact h
  · exact hx.elim
section HWY
variable {p : Program} {l : Launch} {e : Env} {R : Room} {s : State} {m : MethodId} {args : Array Value} {below : List Frame} {meth : Method} {c : Code} {H : Heap} {locs : List Loc} {cells slots : Nat} {Q : State → Prop}
variable {cc : ByteArray} {pc : Nat} {ls : Array Slot} {rest st0 : List Value} {Z : hw_Z} {M : hw_M} {mc ms : Nat} {XR : String → hw_M → Prop} {av : Array Value}
theorem hw_yi {RR : Int32 → hw_M → Prop} (hI : hw_iv Z s M H locs) (hr : vx_Run p l e R s m args below meth c H locs cells slots mc ms (F0 m pc ls st0) rest (hw_Qi Z RR av) (hw_X Z XR) (hw_A Z))
    (kx : ∀ (E : String) (ce : Cell) (q9 : Nat) (M1 : hw_M) (H1 : Heap) (locs1 : List Loc), hw_iv Z s M1 H1 locs1 → XR E M1 → H1[q9]? = some ce → ce.vm = .none → s.vm.findClass E = some ce.cls → vx_W p l e R s m args below meth c H1 locs1 (cells + mc) (slots + ms) Q (F0 m pc ls rest) q9)
    (kk : ∀ (r : Int32) (M1 : hw_M) (H1 : Heap) (locs1 : List Loc), RR r M1 → hw_iv Z s M1 H1 locs1 → W p l e R s m args below meth c H1 locs1 (cells + mc) (slots + ms) Q (F0 m (pc + 3) ls (.int r :: rest))) : W p l e R s m args below meth c H locs cells slots Q (F0 m pc ls st0) :=
  vx_calli hr hI.2.1 (fun _ _ h => h) (fun _ h => h) (fun _ _ h => h) (fun E ce q9 u t H1 locs1 ht _ _ hB _ _ hS g1 g2 g3 => kx E ce q9 u H1 locs1 ⟨by rw [← ht]; exact hB.1, hS, hI.2.2⟩ hB.2 g1 g2 g3) (fun r u t H1 locs1 ht _ hw hB _ _ hS => kk r u H1 locs1 hw ⟨by rw [← ht]; exact hB, hS, hI.2.2⟩)
theorem hw_yl {RR : Int64 → hw_M → Prop} (hI : hw_iv Z s M H locs) (hr : vx_Run p l e R s m args below meth c H locs cells slots mc ms (F0 m pc ls st0) rest (hw_Ql Z RR av) (hw_X Z XR) (hw_A Z))
    (kx : ∀ (E : String) (ce : Cell) (q9 : Nat) (M1 : hw_M) (H1 : Heap) (locs1 : List Loc), hw_iv Z s M1 H1 locs1 → XR E M1 → H1[q9]? = some ce → ce.vm = .none → s.vm.findClass E = some ce.cls → vx_W p l e R s m args below meth c H1 locs1 (cells + mc) (slots + ms) Q (F0 m pc ls rest) q9)
    (kk : ∀ (r : Int64) (M1 : hw_M) (H1 : Heap) (locs1 : List Loc), RR r M1 → hw_iv Z s M1 H1 locs1 → W p l e R s m args below meth c H1 locs1 (cells + mc) (slots + ms) Q (F0 m (pc + 3) ls (.long r :: rest))) : W p l e R s m args below meth c H locs cells slots Q (F0 m pc ls st0) :=
  vx_calll hr hI.2.1 (fun _ _ h => h) (fun _ h => h) (fun _ _ h => h) (fun E ce q9 u t H1 locs1 ht _ _ hB _ _ hS g1 g2 g3 => kx E ce q9 u H1 locs1 ⟨by rw [← ht]; exact hB.1, hS, hI.2.2⟩ hB.2 g1 g2 g3) (fun r u t H1 locs1 ht _ hw hB _ _ hS => kk r u H1 locs1 hw ⟨by rw [← ht]; exact hB, hS, hI.2.2⟩)
theorem hw_yd {RR : UInt64 → hw_M → Prop} (hI : hw_iv Z s M H locs) (hr : vx_Run p l e R s m args below meth c H locs cells slots mc ms (F0 m pc ls st0) rest (hw_Qd Z RR av) (hw_X Z XR) (hw_A Z))
    (kx : ∀ (E : String) (ce : Cell) (q9 : Nat) (M1 : hw_M) (H1 : Heap) (locs1 : List Loc), hw_iv Z s M1 H1 locs1 → XR E M1 → H1[q9]? = some ce → ce.vm = .none → s.vm.findClass E = some ce.cls → vx_W p l e R s m args below meth c H1 locs1 (cells + mc) (slots + ms) Q (F0 m pc ls rest) q9)
    (kk : ∀ (r : UInt64) (M1 : hw_M) (H1 : Heap) (locs1 : List Loc), RR r M1 → hw_iv Z s M1 H1 locs1 → W p l e R s m args below meth c H1 locs1 (cells + mc) (slots + ms) Q (F0 m (pc + 3) ls (.double r :: rest))) : W p l e R s m args below meth c H locs cells slots Q (F0 m pc ls st0) :=
  vx_calld hr hI.2.1 (fun _ _ h => h) (fun _ h => h) (fun _ _ h => h) (fun E ce q9 u t H1 locs1 ht _ _ hB _ _ hS g1 g2 g3 => kx E ce q9 u H1 locs1 ⟨by rw [← ht]; exact hB.1, hS, hI.2.2⟩ hB.2 g1 g2 g3) (fun r u t H1 locs1 ht _ hw hB _ _ hS => kk r u H1 locs1 hw ⟨by rw [← ht]; exact hB, hS, hI.2.2⟩)
end HWY
theorem hs_xn1 {a E : String} {c : Nat} (h : hs_xn [a] c E) : c = 1 ∧ E = a := by
  obtain ⟨h1, h2⟩ := h
  rcases c with _ | _ | c
  · omega
  · exact ⟨rfl, (Option.some.inj h2).symm⟩
  · exact absurd h2 (by intro q; cases q)
theorem hs_xn2 {a b E : String} {c : Nat} (h : hs_xn [a, b] c E) : (c = 1 ∧ E = a) ∨ (c = 2 ∧ E = b) := by
  obtain ⟨h1, h2⟩ := h
  rcases c with _ | _ | _ | c
  · omega
  · exact Or.inl ⟨rfl, (Option.some.inj h2).symm⟩
  · exact Or.inr ⟨rfl, (Option.some.inj h2).symm⟩
  · exact absurd h2 (by intro q; cases q)
theorem hs_xn3 {a b d E : String} {c : Nat} (h : hs_xn [a, b, d] c E) : (c = 1 ∧ E = a) ∨ (c = 2 ∧ E = b) ∨ (c = 3 ∧ E = d) := by
  obtain ⟨h1, h2⟩ := h
  rcases c with _ | _ | _ | _ | c
  · omega
  · exact Or.inl ⟨rfl, (Option.some.inj h2).symm⟩
  · exact Or.inr (Or.inl ⟨rfl, (Option.some.inj h2).symm⟩)
  · exact Or.inr (Or.inr ⟨rfl, (Option.some.inj h2).symm⟩)
  · exact absurd h2 (by intro q; cases q)
/-- the class's answer, told: code, value in the array's place 0 -/
def hl_L {α : Type} (Z : hw_Z) (b1 : Nat → Prop) (M : hw_M) (ad : hp_ad) (oa : Nat) (o : Nat × α × hs_S) (cv : α → Int64) (r : Int32) (M' : hw_M) : Prop := nI o.1 = r ∧ (∃ T', hp_ok Z b1 M' ad o.2.2 T') ∧ (∀ a, b1 a → a ≠ oa → M' a = M a) ∧ ∃ f', M' oa = hw_al Z 1 f' ∧ (o.1 = 0 → f' 0 = cv o.2.1)
def hl_D (Z : hw_Z) (b1 : Nat → Prop) (M : hw_M) (ad : hp_ad) (oa : Nat) (o : Nat × UInt64 × hs_S) (r : Int32) (M' : hw_M) : Prop := nI o.1 = r ∧ (∃ T', hp_ok Z b1 M' ad o.2.2 T') ∧ (∀ a, b1 a → a ≠ oa → M' a = M a) ∧ ∃ f', M' oa = hw_ad Z 1 f' ∧ (o.1 = 0 → f' 0 = o.2.1)
theorem hp_ok.o {Z b1 M ad S T} (h : hp_ok Z b1 M ad S T) {oa : Nat} {e : Option va_E} (ho : b1 oa) : hp_ok Z b1 (va_up M oa e) ad S T := ⟨fun k i hi => (va_up_ne _ _ (Ne.symm (h.f hi ho))).trans (h.m k i hi), h.2⟩
theorem hl_x {α : Type} {Z : hw_Z} {b1 : Nat → Prop} {M : hw_M} {ad : hp_ad} {S : hs_S} {T : hp_T} {oa n : Nat} {o : Nat × α × hs_S} {cv : α → Int64} {f : Nat → Int64} (hP : hp_ok Z b1 M ad S T) (ho : M oa = hw_al Z 1 f) (h1 : o.1 = n) (hn : 0 < n) (h2 : o.2.2 = S) : hl_L Z b1 M ad oa o cv (nI n) M := ⟨by rw [h1], ⟨T, by rw [h2]; exact hP⟩, fun _ _ _ => rfl, f, ho, fun q => by omega⟩
theorem hl_xd {Z : hw_Z} {b1 : Nat → Prop} {M : hw_M} {ad : hp_ad} {S : hs_S} {T : hp_T} {oa n : Nat} {o : Nat × UInt64 × hs_S} {f : Nat → UInt64} (hP : hp_ok Z b1 M ad S T) (ho : M oa = hw_ad Z 1 f) (h1 : o.1 = n) (hn : 0 < n) (h2 : o.2.2 = S) : hl_D Z b1 M ad oa o (nI n) M := ⟨by rw [h1], ⟨T, by rw [h2]; exact hP⟩, fun _ _ _ => rfl, f, ho, fun q => by omega⟩
theorem hl_y {α : Type} {Z : hw_Z} {b1 : Nat → Prop} {M M1 : hw_M} {ad : hp_ad} {oa : Nat} {o : Nat × α × hs_S} {cv : α → Int64} {f : Nat → Int64} {r : α} {v : Int64} (hR : hq_R Z b1 M ad o r M1) (hbo : b1 oa) (hv : v = cv r) : hl_L Z b1 M ad oa o cv (nI 0) (va_up M1 oa (hw_al Z 1 (va_up f 0 v))) := by
  obtain ⟨h1, h2, ⟨T', h3⟩, h4⟩ := hR
  refine ⟨by rw [h1], ⟨T', h3.o hbo⟩, fun a ha hne => (va_up_ne _ _ hne).trans (h4 a ha), _, va_up_self _ _ _, fun _ => ?_⟩
  rw [va_up_self, hv, h2]
theorem hl_yd {Z : hw_Z} {b1 : Nat → Prop} {M M1 : hw_M} {ad : hp_ad} {oa : Nat} {o : Nat × UInt64 × hs_S} {f : Nat → UInt64} {r : UInt64} (hR : hq_R Z b1 M ad o r M1) (hbo : b1 oa) : hl_D Z b1 M ad oa o (nI 0) (va_up M1 oa (hw_ad Z 1 (va_up f 0 r))) := by
  obtain ⟨h1, h2, ⟨T', h3⟩, h4⟩ := hR
  refine ⟨by rw [h1], ⟨T', h3.o hbo⟩, fun a ha hne => (va_up_ne _ _ hne).trans (h4 a ha), _, va_up_self _ _ _, fun _ => ?_⟩
  rw [va_up_self, h2]
theorem cb_X5_piece (own : String) (index : Nat) : hw_CB own index yX5_piece cX5_piece 1 (some .int) 0 := ⟨⟨by decide +kernel, by decide +kernel, by decide +kernel⟩, (hw_win (w := .code yX5_piece cX5_piece 1 (some .int)) (by decide +kernel) (by decide +kernel)), (hw_win (w := .initialized yX5_piece.cls) (by decide +kernel) (by decide +kernel))⟩
theorem cv_L_7 : hw_CV RL 7 yX5_piece cX5_piece 1 (some .int) 0 := ⟨cb_X5_piece _ _, (hw_win (w := .methodLink RL 7 yX5_piece) (by decide +kernel) (by decide +kernel)), (hw_win (w := .instanceMethod yX5_piece) (by decide +kernel) (by decide +kernel)), (hw_win (w := .selects yX5_piece.cls yX5_piece yX5_piece) (by decide +kernel) (by decide +kernel))⟩
theorem cb_X5_layer (own : String) (index : Nat) : hw_CB own index yX5_layer cX5_layer 6 (some .int) 3 := ⟨⟨by decide +kernel, by decide +kernel, by decide +kernel⟩, (hw_win (w := .code yX5_layer cX5_layer 6 (some .int)) (by decide +kernel) (by decide +kernel)), (hw_win (w := .initialized yX5_layer.cls) (by decide +kernel) (by decide +kernel))⟩
theorem cv_L_15 : hw_CV RL 15 yX5_layer cX5_layer 6 (some .int) 3 := ⟨cb_X5_layer _ _, (hw_win (w := .methodLink RL 15 yX5_layer) (by decide +kernel) (by decide +kernel)), (hw_win (w := .instanceMethod yX5_layer) (by decide +kernel) (by decide +kernel)), (hw_win (w := .selects yX5_layer.cls yX5_layer yX5_layer) (by decide +kernel) (by decide +kernel))⟩
theorem cb_X5_lay (own : String) (index : Nat) : hw_CB own index yX5_lay cX5_lay 4 (some .int) 2 := ⟨⟨by decide +kernel, by decide +kernel, by decide +kernel⟩, (hw_win (w := .code yX5_lay cX5_lay 4 (some .int)) (by decide +kernel) (by decide +kernel)), (hw_win (w := .initialized yX5_lay.cls) (by decide +kernel) (by decide +kernel))⟩
theorem cv_L_21 : hw_CV RL 21 yX5_lay cX5_lay 4 (some .int) 2 := ⟨cb_X5_lay _ _, (hw_win (w := .methodLink RL 21 yX5_lay) (by decide +kernel) (by decide +kernel)), (hw_win (w := .instanceMethod yX5_lay) (by decide +kernel) (by decide +kernel)), (hw_win (w := .selects yX5_lay.cls yX5_lay yX5_lay) (by decide +kernel) (by decide +kernel))⟩
theorem cb_X5_powder (own : String) (index : Nat) : hw_CB own index yX5_powder cX5_powder 4 (some .int) 2 := ⟨⟨by decide +kernel, by decide +kernel, by decide +kernel⟩, (hw_win (w := .code yX5_powder cX5_powder 4 (some .int)) (by decide +kernel) (by decide +kernel)), (hw_win (w := .initialized yX5_powder.cls) (by decide +kernel) (by decide +kernel))⟩
theorem cv_L_27 : hw_CV RL 27 yX5_powder cX5_powder 4 (some .int) 2 := ⟨cb_X5_powder _ _, (hw_win (w := .methodLink RL 27 yX5_powder) (by decide +kernel) (by decide +kernel)), (hw_win (w := .instanceMethod yX5_powder) (by decide +kernel) (by decide +kernel)), (hw_win (w := .selects yX5_powder.cls yX5_powder yX5_powder) (by decide +kernel) (by decide +kernel))⟩
theorem cb_X5_blend (own : String) (index : Nat) : hw_CB own index yX5_blend cX5_blend 5 (some .int) 2 := ⟨⟨by decide +kernel, by decide +kernel, by decide +kernel⟩, (hw_win (w := .code yX5_blend cX5_blend 5 (some .int)) (by decide +kernel) (by decide +kernel)), (hw_win (w := .initialized yX5_blend.cls) (by decide +kernel) (by decide +kernel))⟩
theorem cv_L_30 : hw_CV RL 30 yX5_blend cX5_blend 5 (some .int) 2 := ⟨cb_X5_blend _ _, (hw_win (w := .methodLink RL 30 yX5_blend) (by decide +kernel) (by decide +kernel)), (hw_win (w := .instanceMethod yX5_blend) (by decide +kernel) (by decide +kernel)), (hw_win (w := .selects yX5_blend.cls yX5_blend yX5_blend) (by decide +kernel) (by decide +kernel))⟩
theorem cb_X5_load (own : String) (index : Nat) : hw_CB own index yX5_load cX5_load 5 (some .int) 2 := ⟨⟨by decide +kernel, by decide +kernel, by decide +kernel⟩, (hw_win (w := .code yX5_load cX5_load 5 (some .int)) (by decide +kernel) (by decide +kernel)), (hw_win (w := .initialized yX5_load.cls) (by decide +kernel) (by decide +kernel))⟩
theorem cv_L_33 : hw_CV RL 33 yX5_load cX5_load 5 (some .int) 2 := ⟨cb_X5_load _ _, (hw_win (w := .methodLink RL 33 yX5_load) (by decide +kernel) (by decide +kernel)), (hw_win (w := .instanceMethod yX5_load) (by decide +kernel) (by decide +kernel)), (hw_win (w := .selects yX5_load.cls yX5_load yX5_load) (by decide +kernel) (by decide +kernel))⟩
theorem cb_X5_unload (own : String) (index : Nat) : hw_CB own index yX5_unload cX5_unload 4 (some .int) 1 := ⟨⟨by decide +kernel, by decide +kernel, by decide +kernel⟩, (hw_win (w := .code yX5_unload cX5_unload 4 (some .int)) (by decide +kernel) (by decide +kernel)), (hw_win (w := .initialized yX5_unload.cls) (by decide +kernel) (by decide +kernel))⟩
theorem cv_L_36 : hw_CV RL 36 yX5_unload cX5_unload 4 (some .int) 1 := ⟨cb_X5_unload _ _, (hw_win (w := .methodLink RL 36 yX5_unload) (by decide +kernel) (by decide +kernel)), (hw_win (w := .instanceMethod yX5_unload) (by decide +kernel) (by decide +kernel)), (hw_win (w := .selects yX5_unload.cls yX5_unload yX5_unload) (by decide +kernel) (by decide +kernel))⟩
theorem cb_X5_clean (own : String) (index : Nat) : hw_CB own index yX5_clean cX5_clean 4 (some .int) 1 := ⟨⟨by decide +kernel, by decide +kernel, by decide +kernel⟩, (hw_win (w := .code yX5_clean cX5_clean 4 (some .int)) (by decide +kernel) (by decide +kernel)), (hw_win (w := .initialized yX5_clean.cls) (by decide +kernel) (by decide +kernel))⟩
theorem cv_L_40 : hw_CV RL 40 yX5_clean cX5_clean 4 (some .int) 1 := ⟨cb_X5_clean _ _, (hw_win (w := .methodLink RL 40 yX5_clean) (by decide +kernel) (by decide +kernel)), (hw_win (w := .instanceMethod yX5_clean) (by decide +kernel) (by decide +kernel)), (hw_win (w := .selects yX5_clean.cls yX5_clean yX5_clean) (by decide +kernel) (by decide +kernel))⟩
theorem cb_X5_start (own : String) (index : Nat) : hw_CB own index yX5_start cX5_start 8 (some .int) 4 := ⟨⟨by decide +kernel, by decide +kernel, by decide +kernel⟩, (hw_win (w := .code yX5_start cX5_start 8 (some .int)) (by decide +kernel) (by decide +kernel)), (hw_win (w := .initialized yX5_start.cls) (by decide +kernel) (by decide +kernel))⟩
theorem cv_L_43 : hw_CV RL 43 yX5_start cX5_start 8 (some .int) 4 := ⟨cb_X5_start _ _, (hw_win (w := .methodLink RL 43 yX5_start) (by decide +kernel) (by decide +kernel)), (hw_win (w := .instanceMethod yX5_start) (by decide +kernel) (by decide +kernel)), (hw_win (w := .selects yX5_start.cls yX5_start yX5_start) (by decide +kernel) (by decide +kernel))⟩
theorem cb_X5_grow (own : String) (index : Nat) : hw_CB own index yX5_grow cX5_grow 5 (some .int) 2 := ⟨⟨by decide +kernel, by decide +kernel, by decide +kernel⟩, (hw_win (w := .code yX5_grow cX5_grow 5 (some .int)) (by decide +kernel) (by decide +kernel)), (hw_win (w := .initialized yX5_grow.cls) (by decide +kernel) (by decide +kernel))⟩
theorem cv_L_47 : hw_CV RL 47 yX5_grow cX5_grow 5 (some .int) 2 := ⟨cb_X5_grow _ _, (hw_win (w := .methodLink RL 47 yX5_grow) (by decide +kernel) (by decide +kernel)), (hw_win (w := .instanceMethod yX5_grow) (by decide +kernel) (by decide +kernel)), (hw_win (w := .selects yX5_grow.cls yX5_grow yX5_grow) (by decide +kernel) (by decide +kernel))⟩
theorem cb_X5_stop (own : String) (index : Nat) : hw_CB own index yX5_stop cX5_stop 4 (some .int) 1 := ⟨⟨by decide +kernel, by decide +kernel, by decide +kernel⟩, (hw_win (w := .code yX5_stop cX5_stop 4 (some .int)) (by decide +kernel) (by decide +kernel)), (hw_win (w := .initialized yX5_stop.cls) (by decide +kernel) (by decide +kernel))⟩
theorem cv_L_50 : hw_CV RL 50 yX5_stop cX5_stop 4 (some .int) 1 := ⟨cb_X5_stop _ _, (hw_win (w := .methodLink RL 50 yX5_stop) (by decide +kernel) (by decide +kernel)), (hw_win (w := .instanceMethod yX5_stop) (by decide +kernel) (by decide +kernel)), (hw_win (w := .selects yX5_stop.cls yX5_stop yX5_stop) (by decide +kernel) (by decide +kernel))⟩
theorem cb_X5_relieve (own : String) (index : Nat) : hw_CB own index yX5_relieve cX5_relieve 3 (some .int) 1 := ⟨⟨by decide +kernel, by decide +kernel, by decide +kernel⟩, (hw_win (w := .code yX5_relieve cX5_relieve 3 (some .int)) (by decide +kernel) (by decide +kernel)), (hw_win (w := .initialized yX5_relieve.cls) (by decide +kernel) (by decide +kernel))⟩
theorem cv_L_53 : hw_CV RL 53 yX5_relieve cX5_relieve 3 (some .int) 1 := ⟨cb_X5_relieve _ _, (hw_win (w := .methodLink RL 53 yX5_relieve) (by decide +kernel) (by decide +kernel)), (hw_win (w := .instanceMethod yX5_relieve) (by decide +kernel) (by decide +kernel)), (hw_win (w := .selects yX5_relieve.cls yX5_relieve yX5_relieve) (by decide +kernel) (by decide +kernel))⟩
theorem cb_X5_saw (own : String) (index : Nat) : hw_CB own index yX5_saw cX5_saw 3 (some .boolean) 1 := ⟨⟨by decide +kernel, by decide +kernel, by decide +kernel⟩, (hw_win (w := .code yX5_saw cX5_saw 3 (some .boolean)) (by decide +kernel) (by decide +kernel)), (hw_win (w := .initialized yX5_saw.cls) (by decide +kernel) (by decide +kernel))⟩
theorem cv_L_56 : hw_CV RL 56 yX5_saw cX5_saw 3 (some .boolean) 1 := ⟨cb_X5_saw _ _, (hw_win (w := .methodLink RL 56 yX5_saw) (by decide +kernel) (by decide +kernel)), (hw_win (w := .instanceMethod yX5_saw) (by decide +kernel) (by decide +kernel)), (hw_win (w := .selects yX5_saw.cls yX5_saw yX5_saw) (by decide +kernel) (by decide +kernel))⟩
theorem cb_X5_press (own : String) (index : Nat) : hw_CB own index yX5_press cX5_press 3 (some .int) 1 := ⟨⟨by decide +kernel, by decide +kernel, by decide +kernel⟩, (hw_win (w := .code yX5_press cX5_press 3 (some .int)) (by decide +kernel) (by decide +kernel)), (hw_win (w := .initialized yX5_press.cls) (by decide +kernel) (by decide +kernel))⟩
theorem cv_L_60 : hw_CV RL 60 yX5_press cX5_press 3 (some .int) 1 := ⟨cb_X5_press _ _, (hw_win (w := .methodLink RL 60 yX5_press) (by decide +kernel) (by decide +kernel)), (hw_win (w := .instanceMethod yX5_press) (by decide +kernel) (by decide +kernel)), (hw_win (w := .selects yX5_press.cls yX5_press yX5_press) (by decide +kernel) (by decide +kernel))⟩
theorem cb_X5_prove (own : String) (index : Nat) : hw_CB own index yX5_prove cX5_prove 3 (some .boolean) 1 := ⟨⟨by decide +kernel, by decide +kernel, by decide +kernel⟩, (hw_win (w := .code yX5_prove cX5_prove 3 (some .boolean)) (by decide +kernel) (by decide +kernel)), (hw_win (w := .initialized yX5_prove.cls) (by decide +kernel) (by decide +kernel))⟩
theorem cv_L_63 : hw_CV RL 63 yX5_prove cX5_prove 3 (some .boolean) 1 := ⟨cb_X5_prove _ _, (hw_win (w := .methodLink RL 63 yX5_prove) (by decide +kernel) (by decide +kernel)), (hw_win (w := .instanceMethod yX5_prove) (by decide +kernel) (by decide +kernel)), (hw_win (w := .selects yX5_prove.cls yX5_prove yX5_prove) (by decide +kernel) (by decide +kernel))⟩
theorem cb_X5_accept (own : String) (index : Nat) : hw_CB own index yX5_accept cX5_accept 3 (some .int) 1 := ⟨⟨by decide +kernel, by decide +kernel, by decide +kernel⟩, (hw_win (w := .code yX5_accept cX5_accept 3 (some .int)) (by decide +kernel) (by decide +kernel)), (hw_win (w := .initialized yX5_accept.cls) (by decide +kernel) (by decide +kernel))⟩
theorem cv_L_66 : hw_CV RL 66 yX5_accept cX5_accept 3 (some .int) 1 := ⟨cb_X5_accept _ _, (hw_win (w := .methodLink RL 66 yX5_accept) (by decide +kernel) (by decide +kernel)), (hw_win (w := .instanceMethod yX5_accept) (by decide +kernel) (by decide +kernel)), (hw_win (w := .selects yX5_accept.cls yX5_accept yX5_accept) (by decide +kernel) (by decide +kernel))⟩
theorem cv_L_69 : hw_CV RL 69 yX5_ofPiece cX5_ofPiece 4 (some .int) 2 := ⟨cb_X5_ofPiece _ _, (hw_win (w := .methodLink RL 69 yX5_ofPiece) (by decide +kernel) (by decide +kernel)), (hw_win (w := .instanceMethod yX5_ofPiece) (by decide +kernel) (by decide +kernel)), (hw_win (w := .selects yX5_ofPiece.cls yX5_ofPiece yX5_ofPiece) (by decide +kernel) (by decide +kernel))⟩
theorem cv_L_72 : hw_CV RL 72 yX5_ofLayer cX5_ofLayer 5 (some .long) 3 := ⟨cb_X5_ofLayer _ _, (hw_win (w := .methodLink RL 72 yX5_ofLayer) (by decide +kernel) (by decide +kernel)), (hw_win (w := .instanceMethod yX5_ofLayer) (by decide +kernel) (by decide +kernel)), (hw_win (w := .selects yX5_ofLayer.cls yX5_ofLayer yX5_ofLayer) (by decide +kernel) (by decide +kernel))⟩
theorem cv_L_76 : hw_CV RL 76 yX5_ofPowder cX5_ofPowder 4 (some .int) 2 := ⟨cb_X5_ofPowder _ _, (hw_win (w := .methodLink RL 76 yX5_ofPowder) (by decide +kernel) (by decide +kernel)), (hw_win (w := .instanceMethod yX5_ofPowder) (by decide +kernel) (by decide +kernel)), (hw_win (w := .selects yX5_ofPowder.cls yX5_ofPowder yX5_ofPowder) (by decide +kernel) (by decide +kernel))⟩
theorem cv_L_79 : hw_CV RL 79 yX5_ofMachine cX5_ofMachine 4 (some .int) 2 := ⟨cb_X5_ofMachine _ _, (hw_win (w := .methodLink RL 79 yX5_ofMachine) (by decide +kernel) (by decide +kernel)), (hw_win (w := .instanceMethod yX5_ofMachine) (by decide +kernel) (by decide +kernel)), (hw_win (w := .selects yX5_ofMachine.cls yX5_ofMachine yX5_ofMachine) (by decide +kernel) (by decide +kernel))⟩
theorem cb_X5_warm (own : String) (index : Nat) : hw_CB own index yX5_warm cX5_warm 5 (some .double) 3 := ⟨⟨by decide +kernel, by decide +kernel, by decide +kernel⟩, (hw_win (w := .code yX5_warm cX5_warm 5 (some .double)) (by decide +kernel) (by decide +kernel)), (hw_win (w := .initialized yX5_warm.cls) (by decide +kernel) (by decide +kernel))⟩
theorem cv_L_82 : hw_CV RL 82 yX5_warm cX5_warm 5 (some .double) 3 := ⟨cb_X5_warm _ _, (hw_win (w := .methodLink RL 82 yX5_warm) (by decide +kernel) (by decide +kernel)), (hw_win (w := .instanceMethod yX5_warm) (by decide +kernel) (by decide +kernel)), (hw_win (w := .selects yX5_warm.cls yX5_warm yX5_warm) (by decide +kernel) (by decide +kernel))⟩
theorem cv_L_86 : hw_CV RL 86 yX5_measure cX5_measure 4 (some .double) 2 := ⟨cb_X5_measure _ _, (hw_win (w := .methodLink RL 86 yX5_measure) (by decide +kernel) (by decide +kernel)), (hw_win (w := .instanceMethod yX5_measure) (by decide +kernel) (by decide +kernel)), (hw_win (w := .selects yX5_measure.cls yX5_measure yX5_measure) (by decide +kernel) (by decide +kernel))⟩
theorem cv_L_90 : hw_CV RL 90 yX5_recall cX5_recall 5 (some .int) 1 := ⟨cb_X5_recall _ _, (hw_win (w := .methodLink RL 90 yX5_recall) (by decide +kernel) (by decide +kernel)), (hw_win (w := .instanceMethod yX5_recall) (by decide +kernel) (by decide +kernel)), (hw_win (w := .selects yX5_recall.cls yX5_recall yX5_recall) (by decide +kernel) (by decide +kernel))⟩
theorem cv_L_93 : hw_CV RL 93 yX5_many cX5_many 2 (some .int) 1 := ⟨cb_X5_many _ _, (hw_win (w := .methodLink RL 93 yX5_many) (by decide +kernel) (by decide +kernel)), (hw_win (w := .instanceMethod yX5_many) (by decide +kernel) (by decide +kernel)), (hw_win (w := .selects yX5_many.cls yX5_many yX5_many) (by decide +kernel) (by decide +kernel))⟩
theorem cb_X5_wouldHold (own : String) (index : Nat) : hw_CB own index yX5_wouldHold cX5_wouldHold 4 (some .int) 2 := ⟨⟨by decide +kernel, by decide +kernel, by decide +kernel⟩, (hw_win (w := .code yX5_wouldHold cX5_wouldHold 4 (some .int)) (by decide +kernel) (by decide +kernel)), (hw_win (w := .initialized yX5_wouldHold.cls) (by decide +kernel) (by decide +kernel))⟩
theorem cv_L_96 : hw_CV RL 96 yX5_wouldHold cX5_wouldHold 4 (some .int) 2 := ⟨cb_X5_wouldHold _ _, (hw_win (w := .methodLink RL 96 yX5_wouldHold) (by decide +kernel) (by decide +kernel)), (hw_win (w := .instanceMethod yX5_wouldHold) (by decide +kernel) (by decide +kernel)), (hw_win (w := .selects yX5_wouldHold.cls yX5_wouldHold yX5_wouldHold) (by decide +kernel) (by decide +kernel))⟩
theorem cv_L_99 : hw_CV RL 99 yX5_bestWay cX5_bestWay 9 (some .int) 1 := ⟨cb_X5_bestWay _ _, (hw_win (w := .methodLink RL 99 yX5_bestWay) (by decide +kernel) (by decide +kernel)), (hw_win (w := .instanceMethod yX5_bestWay) (by decide +kernel) (by decide +kernel)), (hw_win (w := .selects yX5_bestWay.cls yX5_bestWay yX5_bestWay) (by decide +kernel) (by decide +kernel))⟩
theorem cv_L_102 : hw_CV RL 102 yX5_bestSpeed cX5_bestSpeed 8 (some .int) 2 := ⟨cb_X5_bestSpeed _ _, (hw_win (w := .methodLink RL 102 yX5_bestSpeed) (by decide +kernel) (by decide +kernel)), (hw_win (w := .instanceMethod yX5_bestSpeed) (by decide +kernel) (by decide +kernel)), (hw_win (w := .selects yX5_bestSpeed.cls yX5_bestSpeed yX5_bestSpeed) (by decide +kernel) (by decide +kernel))⟩
set_option maxHeartbeats 4000000 in
set_option maxRecDepth 100000 in
theorem m_L_piece (l : Launch) (hst : l.stackTraces = false) (Z : hw_Z) (M : hw_M) (ad : hp_ad) (S : hs_S) (T : hp_T) (b1 : Nat → Prop) (oa : Nat) (f : Nat → Int64) (hP : hp_ok Z b1 M ad S T) (hB : hs_b S) (hbo : b1 oa) (ho : M oa = hw_al Z 1 f) : Met l yL_piece (hw_mH yL_piece cL_piece 3 (some .int) [(0, 8, 11, 13)]) ({ frames := 10, cells := 6, slots := 36, locals := 210 } : Room) (va_Pc [.ref (ad 0 0), .ref oa] (hw_P Z M)) (hw_Qi Z (hl_L Z b1 M ad oa (st_piece S) (fun x => x.toInt64))) 6 36 (hw_A Z) := by
  have e0 : M (ad 0 0) = hw_ob 6 [.ref (ad 0 1), .ref (ad 0 2), .ref (ad 0 3), .int (nI (hs_np S)), .int (nI (hs_nw S)), .int (hs_G S 0), .int (hs_G S 1), .ref (ad 0 4), .ref (ad 0 8)] := hP.m 0 0 (by decide)
  refine hw_ofH (by decide +kernel) rfl (Nat.le_of_ble_eq_true rfl) ?_
  intro p e s m below meth c ls Q hx hb hml hown hts hk htab hI hl hret
  refine lv_aload_n hx hb dL_piece_0 rfl (lv_at hl 1 rfl) ?_
  refine lv_iconst (v := nI 0) hx hb dL_piece_1 (by decide) ?_
  refine lv_aload_n hx hb dL_piece_2 rfl (lv_at hl 0 rfl) ?_
  refine hw_yi hI (hw_xV hx hb hml hown hts hk hI (m_X5_piece l hst Z M ad S T b1 hP hB) cv_L_7 e0 rfl rfl ⟨rfl, rfl⟩ ⟨(Nat.le_of_ble_eq_true rfl), (Nat.le_of_ble_eq_true rfl)⟩ rfl hl.1 rfl (Nat.le_of_ble_eq_true rfl) ⟨(Nat.le_of_ble_eq_true rfl), (Nat.le_of_ble_eq_true rfl)⟩ dL_piece_3) (fun E9 ce q9 M9 H locs hI hX g1 g2 g3 => ?_) (fun r9 M9 H locs hR hI => ?_)
  · obtain ⟨hc9, hS9, rfl⟩ := hX
    obtain ⟨hc8, rfl⟩ := hs_xn1 hc9
    refine vx_catch (name := "java/lang/IllegalStateException") hown [] ⟨0, 8, 11, 13⟩ [] (by rw [htab]; rfl) (fun _ h => absurd h List.not_mem_nil) (by decide) (by decide) (hts _ (hw_win (w := .classLink RL 13 "java/lang/IllegalStateException") (by decide +kernel) (by decide +kernel))) (va_Nw.use rfl (hk.2.2.2.2.2.2.1 ("java/lang/IllegalStateException", "java/lang/IllegalStateException") (by decide +kernel))) g1 g2 g3 ?_
    refine lv_astore_n (lv' := [(2, .ref q9), (0, .ref (ad 0 0)), (1, .ref oa)]) hx hb dL_piece_11 rfl hl (by decide) rfl (fun ls hl => ?_)
    refine lv_iconst (v := nI 1) hx hb dL_piece_12 (by decide) ?_
    exact hret hI (hl_x hP ho hc8 (by decide) hS9) (Nat.le_of_ble_eq_true rfl) (Nat.le_of_ble_eq_true rfl) dL_piece_13
  · have ho9 : M9 oa = hw_al Z 1 f := (hR.2.2.2 oa hbo).trans ho
    refine lv_i2l (v := r9.toInt64) hx hb dL_piece_6 rfl ?_
    refine hw_last hx hb hk hI ho9 (j := 0) rfl (by omega) (by decide) dL_piece_7 (fun H locs hI => ?_)
    refine lv_goto (tgt := 14) hx hb dL_piece_8 (by decide) ?_
    refine lv_iconst (v := nI 0) hx hb dL_piece_14 (by decide) ?_
    exact hret hI (hl_y hR hbo rfl) (Nat.le_of_ble_eq_true rfl) (Nat.le_of_ble_eq_true rfl) dL_piece_15

set_option maxHeartbeats 4000000 in
set_option maxRecDepth 100000 in
theorem m_L_layer (l : Launch) (hst : l.stackTraces = false) (Z : hw_Z) (M : hw_M) (ad : hp_ad) (S : hs_S) (T : hp_T) (b1 : Nat → Prop) (oa : Nat) (f : Nat → Int64) (ka : Int32) (kb : Int32) (x : Int64) (hP : hp_ok Z b1 M ad S T) (hB : hs_b S) (hbo : b1 oa) (ho : M oa = hw_al Z 1 f) : Met l yL_layer (hw_mH yL_layer cL_layer 7 (some .int) [(0, 12, 15, 19), (0, 12, 19, 13)]) ({ frames := 10, cells := 6, slots := 36, locals := 215 } : Room) (va_Pc [.ref (ad 0 0), .int ka, .int kb, .long x, .ref oa] (hw_P Z M)) (hw_Qi Z (hl_L Z b1 M ad oa (st_layer S ka kb x) (fun x => x.toInt64))) 6 36 (hw_A Z) := by
  have e0 : M (ad 0 0) = hw_ob 6 [.ref (ad 0 1), .ref (ad 0 2), .ref (ad 0 3), .int (nI (hs_np S)), .int (nI (hs_nw S)), .int (hs_G S 0), .int (hs_G S 1), .ref (ad 0 4), .ref (ad 0 8)] := hP.m 0 0 (by decide)
  refine hw_ofH (by decide +kernel) rfl (Nat.le_of_ble_eq_true rfl) ?_
  intro p e s m below meth c ls Q hx hb hml hown hts hk htab hI hl hret
  refine lv_aload hx hb dL_layer_0 (lv_at hl 4 rfl) ?_
  refine lv_iconst (v := nI 0) hx hb dL_layer_2 (by decide) ?_
  refine lv_aload_n hx hb dL_layer_3 rfl (lv_at hl 0 rfl) ?_
  refine lv_iload_n hx hb dL_layer_4 rfl (lv_at hl 1 rfl) ?_
  refine lv_iload_n hx hb dL_layer_5 rfl (lv_at hl 2 rfl) ?_
  refine lv_lload_n hx hb dL_layer_6 rfl (lv_at hl 3 rfl) ?_
  refine hw_yi hI (hw_xV hx hb hml hown hts hk hI (m_X5_layer l hst Z M ad S T b1 ka kb x hP hB) cv_L_15 e0 rfl rfl ⟨rfl, rfl⟩ ⟨(Nat.le_of_ble_eq_true rfl), (Nat.le_of_ble_eq_true rfl)⟩ rfl hl.1 rfl (Nat.le_of_ble_eq_true rfl) ⟨(Nat.le_of_ble_eq_true rfl), (Nat.le_of_ble_eq_true rfl)⟩ dL_layer_7) (fun E9 ce q9 M9 H locs hI hX g1 g2 g3 => ?_) (fun r9 M9 H locs hR hI => ?_)
  · obtain ⟨hc9, hS9, rfl⟩ := hX
    rcases hs_xn2 hc9 with ⟨hc8, rfl⟩ | ⟨hc8, rfl⟩
    · refine vx_catch (name := "java/lang/IndexOutOfBoundsException") hown [] ⟨0, 12, 15, 19⟩ [⟨0, 12, 19, 13⟩] (by rw [htab]; rfl) (fun _ h => absurd h List.not_mem_nil) (by decide) (by decide) (hts _ (hw_win (w := .classLink RL 19 "java/lang/IndexOutOfBoundsException") (by decide +kernel) (by decide +kernel))) (va_Nw.use rfl (hk.2.2.2.2.2.2.1 ("java/lang/IndexOutOfBoundsException", "java/lang/IndexOutOfBoundsException") (by decide +kernel))) g1 g2 g3 ?_
      refine lv_astore (lv' := [(6, .ref q9), (0, .ref (ad 0 0)), (1, .int ka), (2, .int kb), (3, .long x), (5, .ref oa)]) hx hb dL_layer_15 hl (by decide) rfl (fun ls hl => ?_)
      refine lv_iconst (v := nI 1) hx hb dL_layer_17 (by decide) ?_
      exact hret hI (hl_x hP ho hc8 (by decide) hS9) (Nat.le_of_ble_eq_true rfl) (Nat.le_of_ble_eq_true rfl) dL_layer_18
    · refine vx_catch (name := "java/lang/IllegalStateException") hown [⟨0, 12, 15, 19⟩] ⟨0, 12, 19, 13⟩ [] (by rw [htab]; rfl) (List.forall_mem_cons.mpr ⟨Or.inr ⟨by decide, "java/lang/IndexOutOfBoundsException", hts _ (hw_win (w := .classLink RL 19 "java/lang/IndexOutOfBoundsException") (by decide +kernel) (by decide +kernel)), hk.2.2.2.2.2.2.2.1 ("java/lang/IllegalStateException", "java/lang/IndexOutOfBoundsException") (by decide +kernel)⟩, fun _ h => absurd h List.not_mem_nil⟩) (by decide) (by decide) (hts _ (hw_win (w := .classLink RL 13 "java/lang/IllegalStateException") (by decide +kernel) (by decide +kernel))) (va_Nw.use rfl (hk.2.2.2.2.2.2.1 ("java/lang/IllegalStateException", "java/lang/IllegalStateException") (by decide +kernel))) g1 g2 g3 ?_
      refine lv_astore (lv' := [(6, .ref q9), (0, .ref (ad 0 0)), (1, .int ka), (2, .int kb), (3, .long x), (5, .ref oa)]) hx hb dL_layer_19 hl (by decide) rfl (fun ls hl => ?_)
      refine lv_iconst (v := nI 2) hx hb dL_layer_21 (by decide) ?_
      exact hret hI (hl_x hP ho hc8 (by decide) hS9) (Nat.le_of_ble_eq_true rfl) (Nat.le_of_ble_eq_true rfl) dL_layer_22
  · have ho9 : M9 oa = hw_al Z 1 f := (hR.2.2.2 oa hbo).trans ho
    refine lv_i2l (v := r9.toInt64) hx hb dL_layer_10 rfl ?_
    refine hw_last hx hb hk hI ho9 (j := 0) rfl (by omega) (by decide) dL_layer_11 (fun H locs hI => ?_)
    refine lv_goto (tgt := 23) hx hb dL_layer_12 (by decide) ?_
    refine lv_iconst (v := nI 0) hx hb dL_layer_23 (by decide) ?_
    exact hret hI (hl_y hR hbo rfl) (Nat.le_of_ble_eq_true rfl) (Nat.le_of_ble_eq_true rfl) dL_layer_24

set_option maxHeartbeats 4000000 in
set_option maxRecDepth 100000 in
theorem m_L_lay (l : Launch) (hst : l.stackTraces = false) (Z : hw_Z) (M : hw_M) (ad : hp_ad) (S : hs_S) (T : hp_T) (b1 : Nat → Prop) (oa : Nat) (f : Nat → Int64) (ka : Int32) (kw : Int32) (hP : hp_ok Z b1 M ad S T) (hB : hs_b S) (hbo : b1 oa) (ho : M oa = hw_al Z 1 f) : Met l yL_lay (hw_mH yL_lay cL_lay 5 (some .int) [(0, 10, 13, 19), (0, 10, 17, 25), (0, 10, 21, 13)]) ({ frames := 10, cells := 6, slots := 36, locals := 213 } : Room) (va_Pc [.ref (ad 0 0), .int ka, .int kw, .ref oa] (hw_P Z M)) (hw_Qi Z (hl_L Z b1 M ad oa (st_lay S ka kw) (fun x => x.toInt64))) 6 36 (hw_A Z) := by
  have e0 : M (ad 0 0) = hw_ob 6 [.ref (ad 0 1), .ref (ad 0 2), .ref (ad 0 3), .int (nI (hs_np S)), .int (nI (hs_nw S)), .int (hs_G S 0), .int (hs_G S 1), .ref (ad 0 4), .ref (ad 0 8)] := hP.m 0 0 (by decide)
  refine hw_ofH (by decide +kernel) rfl (Nat.le_of_ble_eq_true rfl) ?_
  intro p e s m below meth c ls Q hx hb hml hown hts hk htab hI hl hret
  refine lv_aload_n hx hb dL_lay_0 rfl (lv_at hl 3 rfl) ?_
  refine lv_iconst (v := nI 0) hx hb dL_lay_1 (by decide) ?_
  refine lv_aload_n hx hb dL_lay_2 rfl (lv_at hl 0 rfl) ?_
  refine lv_iload_n hx hb dL_lay_3 rfl (lv_at hl 1 rfl) ?_
  refine lv_iload_n hx hb dL_lay_4 rfl (lv_at hl 2 rfl) ?_
  refine hw_yi hI (hw_xV hx hb hml hown hts hk hI (m_X5_lay l hst Z M ad S T b1 ka kw hP hB) cv_L_21 e0 rfl rfl ⟨rfl, rfl⟩ ⟨(Nat.le_of_ble_eq_true rfl), (Nat.le_of_ble_eq_true rfl)⟩ rfl hl.1 rfl (Nat.le_of_ble_eq_true rfl) ⟨(Nat.le_of_ble_eq_true rfl), (Nat.le_of_ble_eq_true rfl)⟩ dL_lay_5) (fun E9 ce q9 M9 H locs hI hX g1 g2 g3 => ?_) (fun r9 M9 H locs hR hI => ?_)
  · obtain ⟨hc9, hS9, rfl⟩ := hX
    rcases hs_xn3 hc9 with ⟨hc8, rfl⟩ | ⟨hc8, rfl⟩ | ⟨hc8, rfl⟩
    · refine vx_catch (name := "java/lang/IndexOutOfBoundsException") hown [] ⟨0, 10, 13, 19⟩ [⟨0, 10, 17, 25⟩, ⟨0, 10, 21, 13⟩] (by rw [htab]; rfl) (fun _ h => absurd h List.not_mem_nil) (by decide) (by decide) (hts _ (hw_win (w := .classLink RL 19 "java/lang/IndexOutOfBoundsException") (by decide +kernel) (by decide +kernel))) (va_Nw.use rfl (hk.2.2.2.2.2.2.1 ("java/lang/IndexOutOfBoundsException", "java/lang/IndexOutOfBoundsException") (by decide +kernel))) g1 g2 g3 ?_
      refine lv_astore (lv' := [(4, .ref q9), (0, .ref (ad 0 0)), (1, .int ka), (2, .int kw), (3, .ref oa)]) hx hb dL_lay_13 hl (by decide) rfl (fun ls hl => ?_)
      refine lv_iconst (v := nI 1) hx hb dL_lay_15 (by decide) ?_
      exact hret hI (hl_x hP ho hc8 (by decide) hS9) (Nat.le_of_ble_eq_true rfl) (Nat.le_of_ble_eq_true rfl) dL_lay_16
    · refine vx_catch (name := "java/lang/IllegalArgumentException") hown [⟨0, 10, 13, 19⟩] ⟨0, 10, 17, 25⟩ [⟨0, 10, 21, 13⟩] (by rw [htab]; rfl) (List.forall_mem_cons.mpr ⟨Or.inr ⟨by decide, "java/lang/IndexOutOfBoundsException", hts _ (hw_win (w := .classLink RL 19 "java/lang/IndexOutOfBoundsException") (by decide +kernel) (by decide +kernel)), hk.2.2.2.2.2.2.2.1 ("java/lang/IllegalArgumentException", "java/lang/IndexOutOfBoundsException") (by decide +kernel)⟩, fun _ h => absurd h List.not_mem_nil⟩) (by decide) (by decide) (hts _ (hw_win (w := .classLink RL 25 "java/lang/IllegalArgumentException") (by decide +kernel) (by decide +kernel))) (va_Nw.use rfl (hk.2.2.2.2.2.2.1 ("java/lang/IllegalArgumentException", "java/lang/IllegalArgumentException") (by decide +kernel))) g1 g2 g3 ?_
      refine lv_astore (lv' := [(4, .ref q9), (0, .ref (ad 0 0)), (1, .int ka), (2, .int kw), (3, .ref oa)]) hx hb dL_lay_17 hl (by decide) rfl (fun ls hl => ?_)
      refine lv_iconst (v := nI 2) hx hb dL_lay_19 (by decide) ?_
      exact hret hI (hl_x hP ho hc8 (by decide) hS9) (Nat.le_of_ble_eq_true rfl) (Nat.le_of_ble_eq_true rfl) dL_lay_20
    · refine vx_catch (name := "java/lang/IllegalStateException") hown [⟨0, 10, 13, 19⟩, ⟨0, 10, 17, 25⟩] ⟨0, 10, 21, 13⟩ [] (by rw [htab]; rfl) (List.forall_mem_cons.mpr ⟨Or.inr ⟨by decide, "java/lang/IndexOutOfBoundsException", hts _ (hw_win (w := .classLink RL 19 "java/lang/IndexOutOfBoundsException") (by decide +kernel) (by decide +kernel)), hk.2.2.2.2.2.2.2.1 ("java/lang/IllegalStateException", "java/lang/IndexOutOfBoundsException") (by decide +kernel)⟩, List.forall_mem_cons.mpr ⟨Or.inr ⟨by decide, "java/lang/IllegalArgumentException", hts _ (hw_win (w := .classLink RL 25 "java/lang/IllegalArgumentException") (by decide +kernel) (by decide +kernel)), hk.2.2.2.2.2.2.2.1 ("java/lang/IllegalStateException", "java/lang/IllegalArgumentException") (by decide +kernel)⟩, fun _ h => absurd h List.not_mem_nil⟩⟩) (by decide) (by decide) (hts _ (hw_win (w := .classLink RL 13 "java/lang/IllegalStateException") (by decide +kernel) (by decide +kernel))) (va_Nw.use rfl (hk.2.2.2.2.2.2.1 ("java/lang/IllegalStateException", "java/lang/IllegalStateException") (by decide +kernel))) g1 g2 g3 ?_
      refine lv_astore (lv' := [(4, .ref q9), (0, .ref (ad 0 0)), (1, .int ka), (2, .int kw), (3, .ref oa)]) hx hb dL_lay_21 hl (by decide) rfl (fun ls hl => ?_)
      refine lv_iconst (v := nI 3) hx hb dL_lay_23 (by decide) ?_
      exact hret hI (hl_x hP ho hc8 (by decide) hS9) (Nat.le_of_ble_eq_true rfl) (Nat.le_of_ble_eq_true rfl) dL_lay_24
  · have ho9 : M9 oa = hw_al Z 1 f := (hR.2.2.2 oa hbo).trans ho
    refine lv_i2l (v := r9.toInt64) hx hb dL_lay_8 rfl ?_
    refine hw_last hx hb hk hI ho9 (j := 0) rfl (by omega) (by decide) dL_lay_9 (fun H locs hI => ?_)
    refine lv_goto (tgt := 25) hx hb dL_lay_10 (by decide) ?_
    refine lv_iconst (v := nI 0) hx hb dL_lay_25 (by decide) ?_
    exact hret hI (hl_y hR hbo rfl) (Nat.le_of_ble_eq_true rfl) (Nat.le_of_ble_eq_true rfl) dL_lay_26

set_option maxHeartbeats 4000000 in
set_option maxRecDepth 100000 in
theorem m_L_powder (l : Launch) (hst : l.stackTraces = false) (Z : hw_Z) (M : hw_M) (ad : hp_ad) (S : hs_S) (T : hp_T) (b1 : Nat → Prop) (oa : Nat) (f : Nat → Int64) (ka : Int32) (kg : Int32) (hP : hp_ok Z b1 M ad S T) (hB : hs_b S) (hbo : b1 oa) (ho : M oa = hw_al Z 1 f) : Met l yL_powder (hw_mH yL_powder cL_powder 5 (some .int) [(0, 10, 13, 25), (0, 10, 17, 13)]) ({ frames := 10, cells := 6, slots := 36, locals := 213 } : Room) (va_Pc [.ref (ad 0 0), .int ka, .int kg, .ref oa] (hw_P Z M)) (hw_Qi Z (hl_L Z b1 M ad oa (st_powder S ka kg) (fun x => x.toInt64))) 6 36 (hw_A Z) := by
  have e0 : M (ad 0 0) = hw_ob 6 [.ref (ad 0 1), .ref (ad 0 2), .ref (ad 0 3), .int (nI (hs_np S)), .int (nI (hs_nw S)), .int (hs_G S 0), .int (hs_G S 1), .ref (ad 0 4), .ref (ad 0 8)] := hP.m 0 0 (by decide)
  refine hw_ofH (by decide +kernel) rfl (Nat.le_of_ble_eq_true rfl) ?_
  intro p e s m below meth c ls Q hx hb hml hown hts hk htab hI hl hret
  refine lv_aload_n hx hb dL_powder_0 rfl (lv_at hl 3 rfl) ?_
  refine lv_iconst (v := nI 0) hx hb dL_powder_1 (by decide) ?_
  refine lv_aload_n hx hb dL_powder_2 rfl (lv_at hl 0 rfl) ?_
  refine lv_iload_n hx hb dL_powder_3 rfl (lv_at hl 1 rfl) ?_
  refine lv_iload_n hx hb dL_powder_4 rfl (lv_at hl 2 rfl) ?_
  refine hw_yi hI (hw_xV hx hb hml hown hts hk hI (m_X5_powder l hst Z M ad S T b1 ka kg hP hB) cv_L_27 e0 rfl rfl ⟨rfl, rfl⟩ ⟨(Nat.le_of_ble_eq_true rfl), (Nat.le_of_ble_eq_true rfl)⟩ rfl hl.1 rfl (Nat.le_of_ble_eq_true rfl) ⟨(Nat.le_of_ble_eq_true rfl), (Nat.le_of_ble_eq_true rfl)⟩ dL_powder_5) (fun E9 ce q9 M9 H locs hI hX g1 g2 g3 => ?_) (fun r9 M9 H locs hR hI => ?_)
  · obtain ⟨hc9, hS9, rfl⟩ := hX
    rcases hs_xn2 hc9 with ⟨hc8, rfl⟩ | ⟨hc8, rfl⟩
    · refine vx_catch (name := "java/lang/IllegalArgumentException") hown [] ⟨0, 10, 13, 25⟩ [⟨0, 10, 17, 13⟩] (by rw [htab]; rfl) (fun _ h => absurd h List.not_mem_nil) (by decide) (by decide) (hts _ (hw_win (w := .classLink RL 25 "java/lang/IllegalArgumentException") (by decide +kernel) (by decide +kernel))) (va_Nw.use rfl (hk.2.2.2.2.2.2.1 ("java/lang/IllegalArgumentException", "java/lang/IllegalArgumentException") (by decide +kernel))) g1 g2 g3 ?_
      refine lv_astore (lv' := [(4, .ref q9), (0, .ref (ad 0 0)), (1, .int ka), (2, .int kg), (3, .ref oa)]) hx hb dL_powder_13 hl (by decide) rfl (fun ls hl => ?_)
      refine lv_iconst (v := nI 1) hx hb dL_powder_15 (by decide) ?_
      exact hret hI (hl_x hP ho hc8 (by decide) hS9) (Nat.le_of_ble_eq_true rfl) (Nat.le_of_ble_eq_true rfl) dL_powder_16
    · refine vx_catch (name := "java/lang/IllegalStateException") hown [⟨0, 10, 13, 25⟩] ⟨0, 10, 17, 13⟩ [] (by rw [htab]; rfl) (List.forall_mem_cons.mpr ⟨Or.inr ⟨by decide, "java/lang/IllegalArgumentException", hts _ (hw_win (w := .classLink RL 25 "java/lang/IllegalArgumentException") (by decide +kernel) (by decide +kernel)), hk.2.2.2.2.2.2.2.1 ("java/lang/IllegalStateException", "java/lang/IllegalArgumentException") (by decide +kernel)⟩, fun _ h => absurd h List.not_mem_nil⟩) (by decide) (by decide) (hts _ (hw_win (w := .classLink RL 13 "java/lang/IllegalStateException") (by decide +kernel) (by decide +kernel))) (va_Nw.use rfl (hk.2.2.2.2.2.2.1 ("java/lang/IllegalStateException", "java/lang/IllegalStateException") (by decide +kernel))) g1 g2 g3 ?_
      refine lv_astore (lv' := [(4, .ref q9), (0, .ref (ad 0 0)), (1, .int ka), (2, .int kg), (3, .ref oa)]) hx hb dL_powder_17 hl (by decide) rfl (fun ls hl => ?_)
      refine lv_iconst (v := nI 2) hx hb dL_powder_19 (by decide) ?_
      exact hret hI (hl_x hP ho hc8 (by decide) hS9) (Nat.le_of_ble_eq_true rfl) (Nat.le_of_ble_eq_true rfl) dL_powder_20
  · have ho9 : M9 oa = hw_al Z 1 f := (hR.2.2.2 oa hbo).trans ho
    refine lv_i2l (v := r9.toInt64) hx hb dL_powder_8 rfl ?_
    refine hw_last hx hb hk hI ho9 (j := 0) rfl (by omega) (by decide) dL_powder_9 (fun H locs hI => ?_)
    refine lv_goto (tgt := 21) hx hb dL_powder_10 (by decide) ?_
    refine lv_iconst (v := nI 0) hx hb dL_powder_21 (by decide) ?_
    exact hret hI (hl_y hR hbo rfl) (Nat.le_of_ble_eq_true rfl) (Nat.le_of_ble_eq_true rfl) dL_powder_22

set_option maxHeartbeats 4000000 in
set_option maxRecDepth 100000 in
theorem m_L_blend (l : Launch) (hst : l.stackTraces = false) (Z : hw_Z) (M : hw_M) (ad : hp_ad) (S : hs_S) (T : hp_T) (b1 : Nat → Prop) (oa : Nat) (f : Nat → Int64) (ka : Int32) (kc : Int32) (hP : hp_ok Z b1 M ad S T) (hB : hs_b S) (hbo : b1 oa) (ho : M oa = hw_al Z 1 f) : Met l yL_blend (hw_mH yL_blend cL_blend 5 (some .int) [(0, 10, 13, 19), (0, 10, 17, 25), (0, 10, 21, 13)]) ({ frames := 10, cells := 6, slots := 36, locals := 214 } : Room) (va_Pc [.ref (ad 0 0), .int ka, .int kc, .ref oa] (hw_P Z M)) (hw_Qi Z (hl_L Z b1 M ad oa (st_blend S ka kc) (fun x => x.toInt64))) 6 36 (hw_A Z) := by
  have e0 : M (ad 0 0) = hw_ob 6 [.ref (ad 0 1), .ref (ad 0 2), .ref (ad 0 3), .int (nI (hs_np S)), .int (nI (hs_nw S)), .int (hs_G S 0), .int (hs_G S 1), .ref (ad 0 4), .ref (ad 0 8)] := hP.m 0 0 (by decide)
  refine hw_ofH (by decide +kernel) rfl (Nat.le_of_ble_eq_true rfl) ?_
  intro p e s m below meth c ls Q hx hb hml hown hts hk htab hI hl hret
  refine lv_aload_n hx hb dL_blend_0 rfl (lv_at hl 3 rfl) ?_
  refine lv_iconst (v := nI 0) hx hb dL_blend_1 (by decide) ?_
  refine lv_aload_n hx hb dL_blend_2 rfl (lv_at hl 0 rfl) ?_
  refine lv_iload_n hx hb dL_blend_3 rfl (lv_at hl 1 rfl) ?_
  refine lv_iload_n hx hb dL_blend_4 rfl (lv_at hl 2 rfl) ?_
  refine hw_yi hI (hw_xV hx hb hml hown hts hk hI (m_X5_blend l hst Z M ad S T b1 ka kc hP hB) cv_L_30 e0 rfl rfl ⟨rfl, rfl⟩ ⟨(Nat.le_of_ble_eq_true rfl), (Nat.le_of_ble_eq_true rfl)⟩ rfl hl.1 rfl (Nat.le_of_ble_eq_true rfl) ⟨(Nat.le_of_ble_eq_true rfl), (Nat.le_of_ble_eq_true rfl)⟩ dL_blend_5) (fun E9 ce q9 M9 H locs hI hX g1 g2 g3 => ?_) (fun r9 M9 H locs hR hI => ?_)
  · obtain ⟨hc9, hS9, rfl⟩ := hX
    rcases hs_xn3 hc9 with ⟨hc8, rfl⟩ | ⟨hc8, rfl⟩ | ⟨hc8, rfl⟩
    · refine vx_catch (name := "java/lang/IndexOutOfBoundsException") hown [] ⟨0, 10, 13, 19⟩ [⟨0, 10, 17, 25⟩, ⟨0, 10, 21, 13⟩] (by rw [htab]; rfl) (fun _ h => absurd h List.not_mem_nil) (by decide) (by decide) (hts _ (hw_win (w := .classLink RL 19 "java/lang/IndexOutOfBoundsException") (by decide +kernel) (by decide +kernel))) (va_Nw.use rfl (hk.2.2.2.2.2.2.1 ("java/lang/IndexOutOfBoundsException", "java/lang/IndexOutOfBoundsException") (by decide +kernel))) g1 g2 g3 ?_
      refine lv_astore (lv' := [(4, .ref q9), (0, .ref (ad 0 0)), (1, .int ka), (2, .int kc), (3, .ref oa)]) hx hb dL_blend_13 hl (by decide) rfl (fun ls hl => ?_)
      refine lv_iconst (v := nI 1) hx hb dL_blend_15 (by decide) ?_
      exact hret hI (hl_x hP ho hc8 (by decide) hS9) (Nat.le_of_ble_eq_true rfl) (Nat.le_of_ble_eq_true rfl) dL_blend_16
    · refine vx_catch (name := "java/lang/IllegalArgumentException") hown [⟨0, 10, 13, 19⟩] ⟨0, 10, 17, 25⟩ [⟨0, 10, 21, 13⟩] (by rw [htab]; rfl) (List.forall_mem_cons.mpr ⟨Or.inr ⟨by decide, "java/lang/IndexOutOfBoundsException", hts _ (hw_win (w := .classLink RL 19 "java/lang/IndexOutOfBoundsException") (by decide +kernel) (by decide +kernel)), hk.2.2.2.2.2.2.2.1 ("java/lang/IllegalArgumentException", "java/lang/IndexOutOfBoundsException") (by decide +kernel)⟩, fun _ h => absurd h List.not_mem_nil⟩) (by decide) (by decide) (hts _ (hw_win (w := .classLink RL 25 "java/lang/IllegalArgumentException") (by decide +kernel) (by decide +kernel))) (va_Nw.use rfl (hk.2.2.2.2.2.2.1 ("java/lang/IllegalArgumentException", "java/lang/IllegalArgumentException") (by decide +kernel))) g1 g2 g3 ?_
      refine lv_astore (lv' := [(4, .ref q9), (0, .ref (ad 0 0)), (1, .int ka), (2, .int kc), (3, .ref oa)]) hx hb dL_blend_17 hl (by decide) rfl (fun ls hl => ?_)
      refine lv_iconst (v := nI 2) hx hb dL_blend_19 (by decide) ?_
      exact hret hI (hl_x hP ho hc8 (by decide) hS9) (Nat.le_of_ble_eq_true rfl) (Nat.le_of_ble_eq_true rfl) dL_blend_20
    · refine vx_catch (name := "java/lang/IllegalStateException") hown [⟨0, 10, 13, 19⟩, ⟨0, 10, 17, 25⟩] ⟨0, 10, 21, 13⟩ [] (by rw [htab]; rfl) (List.forall_mem_cons.mpr ⟨Or.inr ⟨by decide, "java/lang/IndexOutOfBoundsException", hts _ (hw_win (w := .classLink RL 19 "java/lang/IndexOutOfBoundsException") (by decide +kernel) (by decide +kernel)), hk.2.2.2.2.2.2.2.1 ("java/lang/IllegalStateException", "java/lang/IndexOutOfBoundsException") (by decide +kernel)⟩, List.forall_mem_cons.mpr ⟨Or.inr ⟨by decide, "java/lang/IllegalArgumentException", hts _ (hw_win (w := .classLink RL 25 "java/lang/IllegalArgumentException") (by decide +kernel) (by decide +kernel)), hk.2.2.2.2.2.2.2.1 ("java/lang/IllegalStateException", "java/lang/IllegalArgumentException") (by decide +kernel)⟩, fun _ h => absurd h List.not_mem_nil⟩⟩) (by decide) (by decide) (hts _ (hw_win (w := .classLink RL 13 "java/lang/IllegalStateException") (by decide +kernel) (by decide +kernel))) (va_Nw.use rfl (hk.2.2.2.2.2.2.1 ("java/lang/IllegalStateException", "java/lang/IllegalStateException") (by decide +kernel))) g1 g2 g3 ?_
      refine lv_astore (lv' := [(4, .ref q9), (0, .ref (ad 0 0)), (1, .int ka), (2, .int kc), (3, .ref oa)]) hx hb dL_blend_21 hl (by decide) rfl (fun ls hl => ?_)
      refine lv_iconst (v := nI 3) hx hb dL_blend_23 (by decide) ?_
      exact hret hI (hl_x hP ho hc8 (by decide) hS9) (Nat.le_of_ble_eq_true rfl) (Nat.le_of_ble_eq_true rfl) dL_blend_24
  · have ho9 : M9 oa = hw_al Z 1 f := (hR.2.2.2 oa hbo).trans ho
    refine lv_i2l (v := r9.toInt64) hx hb dL_blend_8 rfl ?_
    refine hw_last hx hb hk hI ho9 (j := 0) rfl (by omega) (by decide) dL_blend_9 (fun H locs hI => ?_)
    refine lv_goto (tgt := 25) hx hb dL_blend_10 (by decide) ?_
    refine lv_iconst (v := nI 0) hx hb dL_blend_25 (by decide) ?_
    exact hret hI (hl_y hR hbo rfl) (Nat.le_of_ble_eq_true rfl) (Nat.le_of_ble_eq_true rfl) dL_blend_26

set_option maxHeartbeats 4000000 in
set_option maxRecDepth 100000 in
theorem m_L_load (l : Launch) (hst : l.stackTraces = false) (Z : hw_Z) (M : hw_M) (ad : hp_ad) (S : hs_S) (T : hp_T) (b1 : Nat → Prop) (oa : Nat) (f : Nat → Int64) (ka : Int32) (kp : Int32) (hP : hp_ok Z b1 M ad S T) (hB : hs_b S) (hbo : b1 oa) (ho : M oa = hw_al Z 1 f) : Met l yL_load (hw_mH yL_load cL_load 5 (some .int) [(0, 10, 13, 19), (0, 10, 17, 13)]) ({ frames := 10, cells := 6, slots := 36, locals := 214 } : Room) (va_Pc [.ref (ad 0 0), .int ka, .int kp, .ref oa] (hw_P Z M)) (hw_Qi Z (hl_L Z b1 M ad oa (st_load S ka kp) (fun x => x.toInt64))) 6 36 (hw_A Z) := by
  have e0 : M (ad 0 0) = hw_ob 6 [.ref (ad 0 1), .ref (ad 0 2), .ref (ad 0 3), .int (nI (hs_np S)), .int (nI (hs_nw S)), .int (hs_G S 0), .int (hs_G S 1), .ref (ad 0 4), .ref (ad 0 8)] := hP.m 0 0 (by decide)
  refine hw_ofH (by decide +kernel) rfl (Nat.le_of_ble_eq_true rfl) ?_
  intro p e s m below meth c ls Q hx hb hml hown hts hk htab hI hl hret
  refine lv_aload_n hx hb dL_load_0 rfl (lv_at hl 3 rfl) ?_
  refine lv_iconst (v := nI 0) hx hb dL_load_1 (by decide) ?_
  refine lv_aload_n hx hb dL_load_2 rfl (lv_at hl 0 rfl) ?_
  refine lv_iload_n hx hb dL_load_3 rfl (lv_at hl 1 rfl) ?_
  refine lv_iload_n hx hb dL_load_4 rfl (lv_at hl 2 rfl) ?_
  refine hw_yi hI (hw_xV hx hb hml hown hts hk hI (m_X5_load l hst Z M ad S T b1 ka kp hP hB) cv_L_33 e0 rfl rfl ⟨rfl, rfl⟩ ⟨(Nat.le_of_ble_eq_true rfl), (Nat.le_of_ble_eq_true rfl)⟩ rfl hl.1 rfl (Nat.le_of_ble_eq_true rfl) ⟨(Nat.le_of_ble_eq_true rfl), (Nat.le_of_ble_eq_true rfl)⟩ dL_load_5) (fun E9 ce q9 M9 H locs hI hX g1 g2 g3 => ?_) (fun r9 M9 H locs hR hI => ?_)
  · obtain ⟨hc9, hS9, rfl⟩ := hX
    rcases hs_xn2 hc9 with ⟨hc8, rfl⟩ | ⟨hc8, rfl⟩
    · refine vx_catch (name := "java/lang/IndexOutOfBoundsException") hown [] ⟨0, 10, 13, 19⟩ [⟨0, 10, 17, 13⟩] (by rw [htab]; rfl) (fun _ h => absurd h List.not_mem_nil) (by decide) (by decide) (hts _ (hw_win (w := .classLink RL 19 "java/lang/IndexOutOfBoundsException") (by decide +kernel) (by decide +kernel))) (va_Nw.use rfl (hk.2.2.2.2.2.2.1 ("java/lang/IndexOutOfBoundsException", "java/lang/IndexOutOfBoundsException") (by decide +kernel))) g1 g2 g3 ?_
      refine lv_astore (lv' := [(4, .ref q9), (0, .ref (ad 0 0)), (1, .int ka), (2, .int kp), (3, .ref oa)]) hx hb dL_load_13 hl (by decide) rfl (fun ls hl => ?_)
      refine lv_iconst (v := nI 1) hx hb dL_load_15 (by decide) ?_
      exact hret hI (hl_x hP ho hc8 (by decide) hS9) (Nat.le_of_ble_eq_true rfl) (Nat.le_of_ble_eq_true rfl) dL_load_16
    · refine vx_catch (name := "java/lang/IllegalStateException") hown [⟨0, 10, 13, 19⟩] ⟨0, 10, 17, 13⟩ [] (by rw [htab]; rfl) (List.forall_mem_cons.mpr ⟨Or.inr ⟨by decide, "java/lang/IndexOutOfBoundsException", hts _ (hw_win (w := .classLink RL 19 "java/lang/IndexOutOfBoundsException") (by decide +kernel) (by decide +kernel)), hk.2.2.2.2.2.2.2.1 ("java/lang/IllegalStateException", "java/lang/IndexOutOfBoundsException") (by decide +kernel)⟩, fun _ h => absurd h List.not_mem_nil⟩) (by decide) (by decide) (hts _ (hw_win (w := .classLink RL 13 "java/lang/IllegalStateException") (by decide +kernel) (by decide +kernel))) (va_Nw.use rfl (hk.2.2.2.2.2.2.1 ("java/lang/IllegalStateException", "java/lang/IllegalStateException") (by decide +kernel))) g1 g2 g3 ?_
      refine lv_astore (lv' := [(4, .ref q9), (0, .ref (ad 0 0)), (1, .int ka), (2, .int kp), (3, .ref oa)]) hx hb dL_load_17 hl (by decide) rfl (fun ls hl => ?_)
      refine lv_iconst (v := nI 2) hx hb dL_load_19 (by decide) ?_
      exact hret hI (hl_x hP ho hc8 (by decide) hS9) (Nat.le_of_ble_eq_true rfl) (Nat.le_of_ble_eq_true rfl) dL_load_20
  · have ho9 : M9 oa = hw_al Z 1 f := (hR.2.2.2 oa hbo).trans ho
    refine lv_i2l (v := r9.toInt64) hx hb dL_load_8 rfl ?_
    refine hw_last hx hb hk hI ho9 (j := 0) rfl (by omega) (by decide) dL_load_9 (fun H locs hI => ?_)
    refine lv_goto (tgt := 21) hx hb dL_load_10 (by decide) ?_
    refine lv_iconst (v := nI 0) hx hb dL_load_21 (by decide) ?_
    exact hret hI (hl_y hR hbo rfl) (Nat.le_of_ble_eq_true rfl) (Nat.le_of_ble_eq_true rfl) dL_load_22

set_option maxHeartbeats 4000000 in
set_option maxRecDepth 100000 in
theorem m_L_unload (l : Launch) (hst : l.stackTraces = false) (Z : hw_Z) (M : hw_M) (ad : hp_ad) (S : hs_S) (T : hp_T) (b1 : Nat → Prop) (oa : Nat) (f : Nat → Int64) (ka : Int32) (hP : hp_ok Z b1 M ad S T) (hB : hs_b S) (hbo : b1 oa) (ho : M oa = hw_al Z 1 f) : Met l yL_unload (hw_mH yL_unload cL_unload 4 (some .int) [(0, 9, 12, 19), (0, 9, 15, 13)]) ({ frames := 10, cells := 6, slots := 36, locals := 213 } : Room) (va_Pc [.ref (ad 0 0), .int ka, .ref oa] (hw_P Z M)) (hw_Qi Z (hl_L Z b1 M ad oa (st_unload S ka) (fun x => x.toInt64))) 6 36 (hw_A Z) := by
  have e0 : M (ad 0 0) = hw_ob 6 [.ref (ad 0 1), .ref (ad 0 2), .ref (ad 0 3), .int (nI (hs_np S)), .int (nI (hs_nw S)), .int (hs_G S 0), .int (hs_G S 1), .ref (ad 0 4), .ref (ad 0 8)] := hP.m 0 0 (by decide)
  refine hw_ofH (by decide +kernel) rfl (Nat.le_of_ble_eq_true rfl) ?_
  intro p e s m below meth c ls Q hx hb hml hown hts hk htab hI hl hret
  refine lv_aload_n hx hb dL_unload_0 rfl (lv_at hl 2 rfl) ?_
  refine lv_iconst (v := nI 0) hx hb dL_unload_1 (by decide) ?_
  refine lv_aload_n hx hb dL_unload_2 rfl (lv_at hl 0 rfl) ?_
  refine lv_iload_n hx hb dL_unload_3 rfl (lv_at hl 1 rfl) ?_
  refine hw_yi hI (hw_xV hx hb hml hown hts hk hI (m_X5_unload l hst Z M ad S T b1 ka hP hB) cv_L_36 e0 rfl rfl ⟨rfl, rfl⟩ ⟨(Nat.le_of_ble_eq_true rfl), (Nat.le_of_ble_eq_true rfl)⟩ rfl hl.1 rfl (Nat.le_of_ble_eq_true rfl) ⟨(Nat.le_of_ble_eq_true rfl), (Nat.le_of_ble_eq_true rfl)⟩ dL_unload_4) (fun E9 ce q9 M9 H locs hI hX g1 g2 g3 => ?_) (fun r9 M9 H locs hR hI => ?_)
  · obtain ⟨hc9, hS9, rfl⟩ := hX
    rcases hs_xn2 hc9 with ⟨hc8, rfl⟩ | ⟨hc8, rfl⟩
    · refine vx_catch (name := "java/lang/IndexOutOfBoundsException") hown [] ⟨0, 9, 12, 19⟩ [⟨0, 9, 15, 13⟩] (by rw [htab]; rfl) (fun _ h => absurd h List.not_mem_nil) (by decide) (by decide) (hts _ (hw_win (w := .classLink RL 19 "java/lang/IndexOutOfBoundsException") (by decide +kernel) (by decide +kernel))) (va_Nw.use rfl (hk.2.2.2.2.2.2.1 ("java/lang/IndexOutOfBoundsException", "java/lang/IndexOutOfBoundsException") (by decide +kernel))) g1 g2 g3 ?_
      refine lv_astore_n (lv' := [(3, .ref q9), (0, .ref (ad 0 0)), (1, .int ka), (2, .ref oa)]) hx hb dL_unload_12 rfl hl (by decide) rfl (fun ls hl => ?_)
      refine lv_iconst (v := nI 1) hx hb dL_unload_13 (by decide) ?_
      exact hret hI (hl_x hP ho hc8 (by decide) hS9) (Nat.le_of_ble_eq_true rfl) (Nat.le_of_ble_eq_true rfl) dL_unload_14
    · refine vx_catch (name := "java/lang/IllegalStateException") hown [⟨0, 9, 12, 19⟩] ⟨0, 9, 15, 13⟩ [] (by rw [htab]; rfl) (List.forall_mem_cons.mpr ⟨Or.inr ⟨by decide, "java/lang/IndexOutOfBoundsException", hts _ (hw_win (w := .classLink RL 19 "java/lang/IndexOutOfBoundsException") (by decide +kernel) (by decide +kernel)), hk.2.2.2.2.2.2.2.1 ("java/lang/IllegalStateException", "java/lang/IndexOutOfBoundsException") (by decide +kernel)⟩, fun _ h => absurd h List.not_mem_nil⟩) (by decide) (by decide) (hts _ (hw_win (w := .classLink RL 13 "java/lang/IllegalStateException") (by decide +kernel) (by decide +kernel))) (va_Nw.use rfl (hk.2.2.2.2.2.2.1 ("java/lang/IllegalStateException", "java/lang/IllegalStateException") (by decide +kernel))) g1 g2 g3 ?_
      refine lv_astore_n (lv' := [(3, .ref q9), (0, .ref (ad 0 0)), (1, .int ka), (2, .ref oa)]) hx hb dL_unload_15 rfl hl (by decide) rfl (fun ls hl => ?_)
      refine lv_iconst (v := nI 2) hx hb dL_unload_16 (by decide) ?_
      exact hret hI (hl_x hP ho hc8 (by decide) hS9) (Nat.le_of_ble_eq_true rfl) (Nat.le_of_ble_eq_true rfl) dL_unload_17
  · have ho9 : M9 oa = hw_al Z 1 f := (hR.2.2.2 oa hbo).trans ho
    refine lv_i2l (v := r9.toInt64) hx hb dL_unload_7 rfl ?_
    refine hw_last hx hb hk hI ho9 (j := 0) rfl (by omega) (by decide) dL_unload_8 (fun H locs hI => ?_)
    refine lv_goto (tgt := 18) hx hb dL_unload_9 (by decide) ?_
    refine lv_iconst (v := nI 0) hx hb dL_unload_18 (by decide) ?_
    exact hret hI (hl_y hR hbo rfl) (Nat.le_of_ble_eq_true rfl) (Nat.le_of_ble_eq_true rfl) dL_unload_19

set_option maxHeartbeats 4000000 in
set_option maxRecDepth 100000 in
theorem m_L_clean (l : Launch) (hst : l.stackTraces = false) (Z : hw_Z) (M : hw_M) (ad : hp_ad) (S : hs_S) (T : hp_T) (b1 : Nat → Prop) (oa : Nat) (f : Nat → Int64) (ka : Int32) (hP : hp_ok Z b1 M ad S T) (hB : hs_b S) (hbo : b1 oa) (ho : M oa = hw_al Z 1 f) : Met l yL_clean (hw_mH yL_clean cL_clean 4 (some .int) [(0, 9, 12, 19)]) ({ frames := 10, cells := 6, slots := 36, locals := 213 } : Room) (va_Pc [.ref (ad 0 0), .int ka, .ref oa] (hw_P Z M)) (hw_Qi Z (hl_L Z b1 M ad oa (st_clean S ka) (fun x => x.toInt64))) 6 36 (hw_A Z) := by
  have e0 : M (ad 0 0) = hw_ob 6 [.ref (ad 0 1), .ref (ad 0 2), .ref (ad 0 3), .int (nI (hs_np S)), .int (nI (hs_nw S)), .int (hs_G S 0), .int (hs_G S 1), .ref (ad 0 4), .ref (ad 0 8)] := hP.m 0 0 (by decide)
  refine hw_ofH (by decide +kernel) rfl (Nat.le_of_ble_eq_true rfl) ?_
  intro p e s m below meth c ls Q hx hb hml hown hts hk htab hI hl hret
  refine lv_aload_n hx hb dL_clean_0 rfl (lv_at hl 2 rfl) ?_
  refine lv_iconst (v := nI 0) hx hb dL_clean_1 (by decide) ?_
  refine lv_aload_n hx hb dL_clean_2 rfl (lv_at hl 0 rfl) ?_
  refine lv_iload_n hx hb dL_clean_3 rfl (lv_at hl 1 rfl) ?_
  refine hw_yi hI (hw_xV hx hb hml hown hts hk hI (m_X5_clean l hst Z M ad S T b1 ka hP hB) cv_L_40 e0 rfl rfl ⟨rfl, rfl⟩ ⟨(Nat.le_of_ble_eq_true rfl), (Nat.le_of_ble_eq_true rfl)⟩ rfl hl.1 rfl (Nat.le_of_ble_eq_true rfl) ⟨(Nat.le_of_ble_eq_true rfl), (Nat.le_of_ble_eq_true rfl)⟩ dL_clean_4) (fun E9 ce q9 M9 H locs hI hX g1 g2 g3 => ?_) (fun r9 M9 H locs hR hI => ?_)
  · obtain ⟨hc9, hS9, rfl⟩ := hX
    obtain ⟨hc8, rfl⟩ := hs_xn1 hc9
    refine vx_catch (name := "java/lang/IndexOutOfBoundsException") hown [] ⟨0, 9, 12, 19⟩ [] (by rw [htab]; rfl) (fun _ h => absurd h List.not_mem_nil) (by decide) (by decide) (hts _ (hw_win (w := .classLink RL 19 "java/lang/IndexOutOfBoundsException") (by decide +kernel) (by decide +kernel))) (va_Nw.use rfl (hk.2.2.2.2.2.2.1 ("java/lang/IndexOutOfBoundsException", "java/lang/IndexOutOfBoundsException") (by decide +kernel))) g1 g2 g3 ?_
    refine lv_astore_n (lv' := [(3, .ref q9), (0, .ref (ad 0 0)), (1, .int ka), (2, .ref oa)]) hx hb dL_clean_12 rfl hl (by decide) rfl (fun ls hl => ?_)
    refine lv_iconst (v := nI 1) hx hb dL_clean_13 (by decide) ?_
    exact hret hI (hl_x hP ho hc8 (by decide) hS9) (Nat.le_of_ble_eq_true rfl) (Nat.le_of_ble_eq_true rfl) dL_clean_14
  · have ho9 : M9 oa = hw_al Z 1 f := (hR.2.2.2 oa hbo).trans ho
    refine lv_i2l (v := r9.toInt64) hx hb dL_clean_7 rfl ?_
    refine hw_last hx hb hk hI ho9 (j := 0) rfl (by omega) (by decide) dL_clean_8 (fun H locs hI => ?_)
    refine lv_goto (tgt := 15) hx hb dL_clean_9 (by decide) ?_
    refine lv_iconst (v := nI 0) hx hb dL_clean_15 (by decide) ?_
    exact hret hI (hl_y hR hbo rfl) (Nat.le_of_ble_eq_true rfl) (Nat.le_of_ble_eq_true rfl) dL_clean_16

set_option maxHeartbeats 4000000 in
set_option maxRecDepth 100000 in
theorem m_L_start (l : Launch) (hst : l.stackTraces = false) (Z : hw_Z) (M : hw_M) (ad : hp_ad) (S : hs_S) (T : hp_T) (b1 : Nat → Prop) (oa : Nat) (f : Nat → Int64) (ka : Int32) (kp : Int32) (kw : Int32) (kd : Int32) (hP : hp_ok Z b1 M ad S T) (hB : hs_b S) (hbo : b1 oa) (ho : M oa = hw_al Z 1 f) : Met l yL_start (hw_mH yL_start cL_start 7 (some .int) [(0, 14, 17, 19), (0, 14, 21, 25), (0, 14, 25, 13)]) ({ frames := 10, cells := 6, slots := 36, locals := 217 } : Room) (va_Pc [.ref (ad 0 0), .int ka, .int kp, .int kw, .int kd, .ref oa] (hw_P Z M)) (hw_Qi Z (hl_L Z b1 M ad oa (st_start S ka kp kw kd) (fun x => x.toInt64))) 6 36 (hw_A Z) := by
  have e0 : M (ad 0 0) = hw_ob 6 [.ref (ad 0 1), .ref (ad 0 2), .ref (ad 0 3), .int (nI (hs_np S)), .int (nI (hs_nw S)), .int (hs_G S 0), .int (hs_G S 1), .ref (ad 0 4), .ref (ad 0 8)] := hP.m 0 0 (by decide)
  refine hw_ofH (by decide +kernel) rfl (Nat.le_of_ble_eq_true rfl) ?_
  intro p e s m below meth c ls Q hx hb hml hown hts hk htab hI hl hret
  refine lv_aload hx hb dL_start_0 (lv_at hl 5 rfl) ?_
  refine lv_iconst (v := nI 0) hx hb dL_start_2 (by decide) ?_
  refine lv_aload_n hx hb dL_start_3 rfl (lv_at hl 0 rfl) ?_
  refine lv_iload_n hx hb dL_start_4 rfl (lv_at hl 1 rfl) ?_
  refine lv_iload_n hx hb dL_start_5 rfl (lv_at hl 2 rfl) ?_
  refine lv_iload_n hx hb dL_start_6 rfl (lv_at hl 3 rfl) ?_
  refine lv_iload hx hb dL_start_7 (lv_at hl 4 rfl) ?_
  refine hw_yi hI (hw_xV hx hb hml hown hts hk hI (m_X5_start l hst Z M ad S T b1 ka kp kw kd hP hB) cv_L_43 e0 rfl rfl ⟨rfl, rfl⟩ ⟨(Nat.le_of_ble_eq_true rfl), (Nat.le_of_ble_eq_true rfl)⟩ rfl hl.1 rfl (Nat.le_of_ble_eq_true rfl) ⟨(Nat.le_of_ble_eq_true rfl), (Nat.le_of_ble_eq_true rfl)⟩ dL_start_9) (fun E9 ce q9 M9 H locs hI hX g1 g2 g3 => ?_) (fun r9 M9 H locs hR hI => ?_)
  · obtain ⟨hc9, hS9, rfl⟩ := hX
    rcases hs_xn3 hc9 with ⟨hc8, rfl⟩ | ⟨hc8, rfl⟩ | ⟨hc8, rfl⟩
    · refine vx_catch (name := "java/lang/IndexOutOfBoundsException") hown [] ⟨0, 14, 17, 19⟩ [⟨0, 14, 21, 25⟩, ⟨0, 14, 25, 13⟩] (by rw [htab]; rfl) (fun _ h => absurd h List.not_mem_nil) (by decide) (by decide) (hts _ (hw_win (w := .classLink RL 19 "java/lang/IndexOutOfBoundsException") (by decide +kernel) (by decide +kernel))) (va_Nw.use rfl (hk.2.2.2.2.2.2.1 ("java/lang/IndexOutOfBoundsException", "java/lang/IndexOutOfBoundsException") (by decide +kernel))) g1 g2 g3 ?_
      refine lv_astore (lv' := [(6, .ref q9), (0, .ref (ad 0 0)), (1, .int ka), (2, .int kp), (3, .int kw), (4, .int kd), (5, .ref oa)]) hx hb dL_start_17 hl (by decide) rfl (fun ls hl => ?_)
      refine lv_iconst (v := nI 1) hx hb dL_start_19 (by decide) ?_
      exact hret hI (hl_x hP ho hc8 (by decide) hS9) (Nat.le_of_ble_eq_true rfl) (Nat.le_of_ble_eq_true rfl) dL_start_20
    · refine vx_catch (name := "java/lang/IllegalArgumentException") hown [⟨0, 14, 17, 19⟩] ⟨0, 14, 21, 25⟩ [⟨0, 14, 25, 13⟩] (by rw [htab]; rfl) (List.forall_mem_cons.mpr ⟨Or.inr ⟨by decide, "java/lang/IndexOutOfBoundsException", hts _ (hw_win (w := .classLink RL 19 "java/lang/IndexOutOfBoundsException") (by decide +kernel) (by decide +kernel)), hk.2.2.2.2.2.2.2.1 ("java/lang/IllegalArgumentException", "java/lang/IndexOutOfBoundsException") (by decide +kernel)⟩, fun _ h => absurd h List.not_mem_nil⟩) (by decide) (by decide) (hts _ (hw_win (w := .classLink RL 25 "java/lang/IllegalArgumentException") (by decide +kernel) (by decide +kernel))) (va_Nw.use rfl (hk.2.2.2.2.2.2.1 ("java/lang/IllegalArgumentException", "java/lang/IllegalArgumentException") (by decide +kernel))) g1 g2 g3 ?_
      refine lv_astore (lv' := [(6, .ref q9), (0, .ref (ad 0 0)), (1, .int ka), (2, .int kp), (3, .int kw), (4, .int kd), (5, .ref oa)]) hx hb dL_start_21 hl (by decide) rfl (fun ls hl => ?_)
      refine lv_iconst (v := nI 2) hx hb dL_start_23 (by decide) ?_
      exact hret hI (hl_x hP ho hc8 (by decide) hS9) (Nat.le_of_ble_eq_true rfl) (Nat.le_of_ble_eq_true rfl) dL_start_24
    · refine vx_catch (name := "java/lang/IllegalStateException") hown [⟨0, 14, 17, 19⟩, ⟨0, 14, 21, 25⟩] ⟨0, 14, 25, 13⟩ [] (by rw [htab]; rfl) (List.forall_mem_cons.mpr ⟨Or.inr ⟨by decide, "java/lang/IndexOutOfBoundsException", hts _ (hw_win (w := .classLink RL 19 "java/lang/IndexOutOfBoundsException") (by decide +kernel) (by decide +kernel)), hk.2.2.2.2.2.2.2.1 ("java/lang/IllegalStateException", "java/lang/IndexOutOfBoundsException") (by decide +kernel)⟩, List.forall_mem_cons.mpr ⟨Or.inr ⟨by decide, "java/lang/IllegalArgumentException", hts _ (hw_win (w := .classLink RL 25 "java/lang/IllegalArgumentException") (by decide +kernel) (by decide +kernel)), hk.2.2.2.2.2.2.2.1 ("java/lang/IllegalStateException", "java/lang/IllegalArgumentException") (by decide +kernel)⟩, fun _ h => absurd h List.not_mem_nil⟩⟩) (by decide) (by decide) (hts _ (hw_win (w := .classLink RL 13 "java/lang/IllegalStateException") (by decide +kernel) (by decide +kernel))) (va_Nw.use rfl (hk.2.2.2.2.2.2.1 ("java/lang/IllegalStateException", "java/lang/IllegalStateException") (by decide +kernel))) g1 g2 g3 ?_
      refine lv_astore (lv' := [(6, .ref q9), (0, .ref (ad 0 0)), (1, .int ka), (2, .int kp), (3, .int kw), (4, .int kd), (5, .ref oa)]) hx hb dL_start_25 hl (by decide) rfl (fun ls hl => ?_)
      refine lv_iconst (v := nI 3) hx hb dL_start_27 (by decide) ?_
      exact hret hI (hl_x hP ho hc8 (by decide) hS9) (Nat.le_of_ble_eq_true rfl) (Nat.le_of_ble_eq_true rfl) dL_start_28
  · have ho9 : M9 oa = hw_al Z 1 f := (hR.2.2.2 oa hbo).trans ho
    refine lv_i2l (v := r9.toInt64) hx hb dL_start_12 rfl ?_
    refine hw_last hx hb hk hI ho9 (j := 0) rfl (by omega) (by decide) dL_start_13 (fun H locs hI => ?_)
    refine lv_goto (tgt := 29) hx hb dL_start_14 (by decide) ?_
    refine lv_iconst (v := nI 0) hx hb dL_start_29 (by decide) ?_
    exact hret hI (hl_y hR hbo rfl) (Nat.le_of_ble_eq_true rfl) (Nat.le_of_ble_eq_true rfl) dL_start_30

set_option maxHeartbeats 4000000 in
set_option maxRecDepth 100000 in
theorem m_L_grow (l : Launch) (hst : l.stackTraces = false) (Z : hw_Z) (M : hw_M) (ad : hp_ad) (S : hs_S) (T : hp_T) (b1 : Nat → Prop) (oa : Nat) (f : Nat → Int64) (ka : Int32) (kn : Int32) (hP : hp_ok Z b1 M ad S T) (hB : hs_b S) (hbo : b1 oa) (ho : M oa = hw_al Z 1 f) : Met l yL_grow (hw_mH yL_grow cL_grow 5 (some .int) [(0, 10, 13, 19), (0, 10, 17, 25), (0, 10, 21, 13)]) ({ frames := 10, cells := 6, slots := 36, locals := 214 } : Room) (va_Pc [.ref (ad 0 0), .int ka, .int kn, .ref oa] (hw_P Z M)) (hw_Qi Z (hl_L Z b1 M ad oa (st_grow S ka kn) (fun x => x.toInt64))) 6 36 (hw_A Z) := by
  have e0 : M (ad 0 0) = hw_ob 6 [.ref (ad 0 1), .ref (ad 0 2), .ref (ad 0 3), .int (nI (hs_np S)), .int (nI (hs_nw S)), .int (hs_G S 0), .int (hs_G S 1), .ref (ad 0 4), .ref (ad 0 8)] := hP.m 0 0 (by decide)
  refine hw_ofH (by decide +kernel) rfl (Nat.le_of_ble_eq_true rfl) ?_
  intro p e s m below meth c ls Q hx hb hml hown hts hk htab hI hl hret
  refine lv_aload_n hx hb dL_grow_0 rfl (lv_at hl 3 rfl) ?_
  refine lv_iconst (v := nI 0) hx hb dL_grow_1 (by decide) ?_
  refine lv_aload_n hx hb dL_grow_2 rfl (lv_at hl 0 rfl) ?_
  refine lv_iload_n hx hb dL_grow_3 rfl (lv_at hl 1 rfl) ?_
  refine lv_iload_n hx hb dL_grow_4 rfl (lv_at hl 2 rfl) ?_
  refine hw_yi hI (hw_xV hx hb hml hown hts hk hI (m_X5_grow l hst Z M ad S T b1 ka kn hP hB) cv_L_47 e0 rfl rfl ⟨rfl, rfl⟩ ⟨(Nat.le_of_ble_eq_true rfl), (Nat.le_of_ble_eq_true rfl)⟩ rfl hl.1 rfl (Nat.le_of_ble_eq_true rfl) ⟨(Nat.le_of_ble_eq_true rfl), (Nat.le_of_ble_eq_true rfl)⟩ dL_grow_5) (fun E9 ce q9 M9 H locs hI hX g1 g2 g3 => ?_) (fun r9 M9 H locs hR hI => ?_)
  · obtain ⟨hc9, hS9, rfl⟩ := hX
    rcases hs_xn3 hc9 with ⟨hc8, rfl⟩ | ⟨hc8, rfl⟩ | ⟨hc8, rfl⟩
    · refine vx_catch (name := "java/lang/IndexOutOfBoundsException") hown [] ⟨0, 10, 13, 19⟩ [⟨0, 10, 17, 25⟩, ⟨0, 10, 21, 13⟩] (by rw [htab]; rfl) (fun _ h => absurd h List.not_mem_nil) (by decide) (by decide) (hts _ (hw_win (w := .classLink RL 19 "java/lang/IndexOutOfBoundsException") (by decide +kernel) (by decide +kernel))) (va_Nw.use rfl (hk.2.2.2.2.2.2.1 ("java/lang/IndexOutOfBoundsException", "java/lang/IndexOutOfBoundsException") (by decide +kernel))) g1 g2 g3 ?_
      refine lv_astore (lv' := [(4, .ref q9), (0, .ref (ad 0 0)), (1, .int ka), (2, .int kn), (3, .ref oa)]) hx hb dL_grow_13 hl (by decide) rfl (fun ls hl => ?_)
      refine lv_iconst (v := nI 1) hx hb dL_grow_15 (by decide) ?_
      exact hret hI (hl_x hP ho hc8 (by decide) hS9) (Nat.le_of_ble_eq_true rfl) (Nat.le_of_ble_eq_true rfl) dL_grow_16
    · refine vx_catch (name := "java/lang/IllegalArgumentException") hown [⟨0, 10, 13, 19⟩] ⟨0, 10, 17, 25⟩ [⟨0, 10, 21, 13⟩] (by rw [htab]; rfl) (List.forall_mem_cons.mpr ⟨Or.inr ⟨by decide, "java/lang/IndexOutOfBoundsException", hts _ (hw_win (w := .classLink RL 19 "java/lang/IndexOutOfBoundsException") (by decide +kernel) (by decide +kernel)), hk.2.2.2.2.2.2.2.1 ("java/lang/IllegalArgumentException", "java/lang/IndexOutOfBoundsException") (by decide +kernel)⟩, fun _ h => absurd h List.not_mem_nil⟩) (by decide) (by decide) (hts _ (hw_win (w := .classLink RL 25 "java/lang/IllegalArgumentException") (by decide +kernel) (by decide +kernel))) (va_Nw.use rfl (hk.2.2.2.2.2.2.1 ("java/lang/IllegalArgumentException", "java/lang/IllegalArgumentException") (by decide +kernel))) g1 g2 g3 ?_
      refine lv_astore (lv' := [(4, .ref q9), (0, .ref (ad 0 0)), (1, .int ka), (2, .int kn), (3, .ref oa)]) hx hb dL_grow_17 hl (by decide) rfl (fun ls hl => ?_)
      refine lv_iconst (v := nI 2) hx hb dL_grow_19 (by decide) ?_
      exact hret hI (hl_x hP ho hc8 (by decide) hS9) (Nat.le_of_ble_eq_true rfl) (Nat.le_of_ble_eq_true rfl) dL_grow_20
    · refine vx_catch (name := "java/lang/IllegalStateException") hown [⟨0, 10, 13, 19⟩, ⟨0, 10, 17, 25⟩] ⟨0, 10, 21, 13⟩ [] (by rw [htab]; rfl) (List.forall_mem_cons.mpr ⟨Or.inr ⟨by decide, "java/lang/IndexOutOfBoundsException", hts _ (hw_win (w := .classLink RL 19 "java/lang/IndexOutOfBoundsException") (by decide +kernel) (by decide +kernel)), hk.2.2.2.2.2.2.2.1 ("java/lang/IllegalStateException", "java/lang/IndexOutOfBoundsException") (by decide +kernel)⟩, List.forall_mem_cons.mpr ⟨Or.inr ⟨by decide, "java/lang/IllegalArgumentException", hts _ (hw_win (w := .classLink RL 25 "java/lang/IllegalArgumentException") (by decide +kernel) (by decide +kernel)), hk.2.2.2.2.2.2.2.1 ("java/lang/IllegalStateException", "java/lang/IllegalArgumentException") (by decide +kernel)⟩, fun _ h => absurd h List.not_mem_nil⟩⟩) (by decide) (by decide) (hts _ (hw_win (w := .classLink RL 13 "java/lang/IllegalStateException") (by decide +kernel) (by decide +kernel))) (va_Nw.use rfl (hk.2.2.2.2.2.2.1 ("java/lang/IllegalStateException", "java/lang/IllegalStateException") (by decide +kernel))) g1 g2 g3 ?_
      refine lv_astore (lv' := [(4, .ref q9), (0, .ref (ad 0 0)), (1, .int ka), (2, .int kn), (3, .ref oa)]) hx hb dL_grow_21 hl (by decide) rfl (fun ls hl => ?_)
      refine lv_iconst (v := nI 3) hx hb dL_grow_23 (by decide) ?_
      exact hret hI (hl_x hP ho hc8 (by decide) hS9) (Nat.le_of_ble_eq_true rfl) (Nat.le_of_ble_eq_true rfl) dL_grow_24
  · have ho9 : M9 oa = hw_al Z 1 f := (hR.2.2.2 oa hbo).trans ho
    refine lv_i2l (v := r9.toInt64) hx hb dL_grow_8 rfl ?_
    refine hw_last hx hb hk hI ho9 (j := 0) rfl (by omega) (by decide) dL_grow_9 (fun H locs hI => ?_)
    refine lv_goto (tgt := 25) hx hb dL_grow_10 (by decide) ?_
    refine lv_iconst (v := nI 0) hx hb dL_grow_25 (by decide) ?_
    exact hret hI (hl_y hR hbo rfl) (Nat.le_of_ble_eq_true rfl) (Nat.le_of_ble_eq_true rfl) dL_grow_26

set_option maxHeartbeats 4000000 in
set_option maxRecDepth 100000 in
theorem m_L_stop (l : Launch) (hst : l.stackTraces = false) (Z : hw_Z) (M : hw_M) (ad : hp_ad) (S : hs_S) (T : hp_T) (b1 : Nat → Prop) (oa : Nat) (f : Nat → Int64) (ka : Int32) (hP : hp_ok Z b1 M ad S T) (hB : hs_b S) (hbo : b1 oa) (ho : M oa = hw_al Z 1 f) : Met l yL_stop (hw_mH yL_stop cL_stop 4 (some .int) [(0, 9, 12, 19), (0, 9, 15, 13)]) ({ frames := 10, cells := 6, slots := 36, locals := 213 } : Room) (va_Pc [.ref (ad 0 0), .int ka, .ref oa] (hw_P Z M)) (hw_Qi Z (hl_L Z b1 M ad oa (st_stop S ka) (fun x => x.toInt64))) 6 36 (hw_A Z) := by
  have e0 : M (ad 0 0) = hw_ob 6 [.ref (ad 0 1), .ref (ad 0 2), .ref (ad 0 3), .int (nI (hs_np S)), .int (nI (hs_nw S)), .int (hs_G S 0), .int (hs_G S 1), .ref (ad 0 4), .ref (ad 0 8)] := hP.m 0 0 (by decide)
  refine hw_ofH (by decide +kernel) rfl (Nat.le_of_ble_eq_true rfl) ?_
  intro p e s m below meth c ls Q hx hb hml hown hts hk htab hI hl hret
  refine lv_aload_n hx hb dL_stop_0 rfl (lv_at hl 2 rfl) ?_
  refine lv_iconst (v := nI 0) hx hb dL_stop_1 (by decide) ?_
  refine lv_aload_n hx hb dL_stop_2 rfl (lv_at hl 0 rfl) ?_
  refine lv_iload_n hx hb dL_stop_3 rfl (lv_at hl 1 rfl) ?_
  refine hw_yi hI (hw_xV hx hb hml hown hts hk hI (m_X5_stop l hst Z M ad S T b1 ka hP hB) cv_L_50 e0 rfl rfl ⟨rfl, rfl⟩ ⟨(Nat.le_of_ble_eq_true rfl), (Nat.le_of_ble_eq_true rfl)⟩ rfl hl.1 rfl (Nat.le_of_ble_eq_true rfl) ⟨(Nat.le_of_ble_eq_true rfl), (Nat.le_of_ble_eq_true rfl)⟩ dL_stop_4) (fun E9 ce q9 M9 H locs hI hX g1 g2 g3 => ?_) (fun r9 M9 H locs hR hI => ?_)
  · obtain ⟨hc9, hS9, rfl⟩ := hX
    rcases hs_xn2 hc9 with ⟨hc8, rfl⟩ | ⟨hc8, rfl⟩
    · refine vx_catch (name := "java/lang/IndexOutOfBoundsException") hown [] ⟨0, 9, 12, 19⟩ [⟨0, 9, 15, 13⟩] (by rw [htab]; rfl) (fun _ h => absurd h List.not_mem_nil) (by decide) (by decide) (hts _ (hw_win (w := .classLink RL 19 "java/lang/IndexOutOfBoundsException") (by decide +kernel) (by decide +kernel))) (va_Nw.use rfl (hk.2.2.2.2.2.2.1 ("java/lang/IndexOutOfBoundsException", "java/lang/IndexOutOfBoundsException") (by decide +kernel))) g1 g2 g3 ?_
      refine lv_astore_n (lv' := [(3, .ref q9), (0, .ref (ad 0 0)), (1, .int ka), (2, .ref oa)]) hx hb dL_stop_12 rfl hl (by decide) rfl (fun ls hl => ?_)
      refine lv_iconst (v := nI 1) hx hb dL_stop_13 (by decide) ?_
      exact hret hI (hl_x hP ho hc8 (by decide) hS9) (Nat.le_of_ble_eq_true rfl) (Nat.le_of_ble_eq_true rfl) dL_stop_14
    · refine vx_catch (name := "java/lang/IllegalStateException") hown [⟨0, 9, 12, 19⟩] ⟨0, 9, 15, 13⟩ [] (by rw [htab]; rfl) (List.forall_mem_cons.mpr ⟨Or.inr ⟨by decide, "java/lang/IndexOutOfBoundsException", hts _ (hw_win (w := .classLink RL 19 "java/lang/IndexOutOfBoundsException") (by decide +kernel) (by decide +kernel)), hk.2.2.2.2.2.2.2.1 ("java/lang/IllegalStateException", "java/lang/IndexOutOfBoundsException") (by decide +kernel)⟩, fun _ h => absurd h List.not_mem_nil⟩) (by decide) (by decide) (hts _ (hw_win (w := .classLink RL 13 "java/lang/IllegalStateException") (by decide +kernel) (by decide +kernel))) (va_Nw.use rfl (hk.2.2.2.2.2.2.1 ("java/lang/IllegalStateException", "java/lang/IllegalStateException") (by decide +kernel))) g1 g2 g3 ?_
      refine lv_astore_n (lv' := [(3, .ref q9), (0, .ref (ad 0 0)), (1, .int ka), (2, .ref oa)]) hx hb dL_stop_15 rfl hl (by decide) rfl (fun ls hl => ?_)
      refine lv_iconst (v := nI 2) hx hb dL_stop_16 (by decide) ?_
      exact hret hI (hl_x hP ho hc8 (by decide) hS9) (Nat.le_of_ble_eq_true rfl) (Nat.le_of_ble_eq_true rfl) dL_stop_17
  · have ho9 : M9 oa = hw_al Z 1 f := (hR.2.2.2 oa hbo).trans ho
    refine lv_i2l (v := r9.toInt64) hx hb dL_stop_7 rfl ?_
    refine hw_last hx hb hk hI ho9 (j := 0) rfl (by omega) (by decide) dL_stop_8 (fun H locs hI => ?_)
    refine lv_goto (tgt := 18) hx hb dL_stop_9 (by decide) ?_
    refine lv_iconst (v := nI 0) hx hb dL_stop_18 (by decide) ?_
    exact hret hI (hl_y hR hbo rfl) (Nat.le_of_ble_eq_true rfl) (Nat.le_of_ble_eq_true rfl) dL_stop_19

set_option maxHeartbeats 4000000 in
set_option maxRecDepth 100000 in
theorem m_L_relieve (l : Launch) (hst : l.stackTraces = false) (Z : hw_Z) (M : hw_M) (ad : hp_ad) (S : hs_S) (T : hp_T) (b1 : Nat → Prop) (oa : Nat) (f : Nat → Int64) (ka : Int32) (hP : hp_ok Z b1 M ad S T) (hB : hs_b S) (hbo : b1 oa) (ho : M oa = hw_al Z 1 f) : Met l yL_relieve (hw_mH yL_relieve cL_relieve 4 (some .int) [(0, 9, 12, 19), (0, 9, 15, 13)]) ({ frames := 10, cells := 6, slots := 36, locals := 212 } : Room) (va_Pc [.ref (ad 0 0), .int ka, .ref oa] (hw_P Z M)) (hw_Qi Z (hl_L Z b1 M ad oa (st_relieve S ka) (fun x => x.toInt64))) 6 36 (hw_A Z) := by
  have e0 : M (ad 0 0) = hw_ob 6 [.ref (ad 0 1), .ref (ad 0 2), .ref (ad 0 3), .int (nI (hs_np S)), .int (nI (hs_nw S)), .int (hs_G S 0), .int (hs_G S 1), .ref (ad 0 4), .ref (ad 0 8)] := hP.m 0 0 (by decide)
  refine hw_ofH (by decide +kernel) rfl (Nat.le_of_ble_eq_true rfl) ?_
  intro p e s m below meth c ls Q hx hb hml hown hts hk htab hI hl hret
  refine lv_aload_n hx hb dL_relieve_0 rfl (lv_at hl 2 rfl) ?_
  refine lv_iconst (v := nI 0) hx hb dL_relieve_1 (by decide) ?_
  refine lv_aload_n hx hb dL_relieve_2 rfl (lv_at hl 0 rfl) ?_
  refine lv_iload_n hx hb dL_relieve_3 rfl (lv_at hl 1 rfl) ?_
  refine hw_yi hI (hw_xV hx hb hml hown hts hk hI (m_X5_relieve l hst Z M ad S T b1 ka hP hB) cv_L_53 e0 rfl rfl ⟨rfl, rfl⟩ ⟨(Nat.le_of_ble_eq_true rfl), (Nat.le_of_ble_eq_true rfl)⟩ rfl hl.1 rfl (Nat.le_of_ble_eq_true rfl) ⟨(Nat.le_of_ble_eq_true rfl), (Nat.le_of_ble_eq_true rfl)⟩ dL_relieve_4) (fun E9 ce q9 M9 H locs hI hX g1 g2 g3 => ?_) (fun r9 M9 H locs hR hI => ?_)
  · obtain ⟨hc9, hS9, rfl⟩ := hX
    rcases hs_xn2 hc9 with ⟨hc8, rfl⟩ | ⟨hc8, rfl⟩
    · refine vx_catch (name := "java/lang/IndexOutOfBoundsException") hown [] ⟨0, 9, 12, 19⟩ [⟨0, 9, 15, 13⟩] (by rw [htab]; rfl) (fun _ h => absurd h List.not_mem_nil) (by decide) (by decide) (hts _ (hw_win (w := .classLink RL 19 "java/lang/IndexOutOfBoundsException") (by decide +kernel) (by decide +kernel))) (va_Nw.use rfl (hk.2.2.2.2.2.2.1 ("java/lang/IndexOutOfBoundsException", "java/lang/IndexOutOfBoundsException") (by decide +kernel))) g1 g2 g3 ?_
      refine lv_astore_n (lv' := [(3, .ref q9), (0, .ref (ad 0 0)), (1, .int ka), (2, .ref oa)]) hx hb dL_relieve_12 rfl hl (by decide) rfl (fun ls hl => ?_)
      refine lv_iconst (v := nI 1) hx hb dL_relieve_13 (by decide) ?_
      exact hret hI (hl_x hP ho hc8 (by decide) hS9) (Nat.le_of_ble_eq_true rfl) (Nat.le_of_ble_eq_true rfl) dL_relieve_14
    · refine vx_catch (name := "java/lang/IllegalStateException") hown [⟨0, 9, 12, 19⟩] ⟨0, 9, 15, 13⟩ [] (by rw [htab]; rfl) (List.forall_mem_cons.mpr ⟨Or.inr ⟨by decide, "java/lang/IndexOutOfBoundsException", hts _ (hw_win (w := .classLink RL 19 "java/lang/IndexOutOfBoundsException") (by decide +kernel) (by decide +kernel)), hk.2.2.2.2.2.2.2.1 ("java/lang/IllegalStateException", "java/lang/IndexOutOfBoundsException") (by decide +kernel)⟩, fun _ h => absurd h List.not_mem_nil⟩) (by decide) (by decide) (hts _ (hw_win (w := .classLink RL 13 "java/lang/IllegalStateException") (by decide +kernel) (by decide +kernel))) (va_Nw.use rfl (hk.2.2.2.2.2.2.1 ("java/lang/IllegalStateException", "java/lang/IllegalStateException") (by decide +kernel))) g1 g2 g3 ?_
      refine lv_astore_n (lv' := [(3, .ref q9), (0, .ref (ad 0 0)), (1, .int ka), (2, .ref oa)]) hx hb dL_relieve_15 rfl hl (by decide) rfl (fun ls hl => ?_)
      refine lv_iconst (v := nI 2) hx hb dL_relieve_16 (by decide) ?_
      exact hret hI (hl_x hP ho hc8 (by decide) hS9) (Nat.le_of_ble_eq_true rfl) (Nat.le_of_ble_eq_true rfl) dL_relieve_17
  · have ho9 : M9 oa = hw_al Z 1 f := (hR.2.2.2 oa hbo).trans ho
    refine lv_i2l (v := r9.toInt64) hx hb dL_relieve_7 rfl ?_
    refine hw_last hx hb hk hI ho9 (j := 0) rfl (by omega) (by decide) dL_relieve_8 (fun H locs hI => ?_)
    refine lv_goto (tgt := 18) hx hb dL_relieve_9 (by decide) ?_
    refine lv_iconst (v := nI 0) hx hb dL_relieve_18 (by decide) ?_
    exact hret hI (hl_y hR hbo rfl) (Nat.le_of_ble_eq_true rfl) (Nat.le_of_ble_eq_true rfl) dL_relieve_19

set_option maxHeartbeats 4000000 in
set_option maxRecDepth 100000 in
theorem m_L_saw (l : Launch) (hst : l.stackTraces = false) (Z : hw_Z) (M : hw_M) (ad : hp_ad) (S : hs_S) (T : hp_T) (b1 : Nat → Prop) (oa : Nat) (f : Nat → Int64) (ka : Int32) (hP : hp_ok Z b1 M ad S T) (hB : hs_b S) (hbo : b1 oa) (ho : M oa = hw_al Z 1 f) : Met l yL_saw (hw_mH yL_saw cL_saw 4 (some .int) [(0, 16, 19, 19), (0, 16, 22, 13)]) ({ frames := 10, cells := 6, slots := 36, locals := 212 } : Room) (va_Pc [.ref (ad 0 0), .int ka, .ref oa] (hw_P Z M)) (hw_Qi Z (hl_L Z b1 M ad oa (st_saw S ka) (fun x => if x = 0 then 0 else 1))) 6 36 (hw_A Z) := by
  have e0 : M (ad 0 0) = hw_ob 6 [.ref (ad 0 1), .ref (ad 0 2), .ref (ad 0 3), .int (nI (hs_np S)), .int (nI (hs_nw S)), .int (hs_G S 0), .int (hs_G S 1), .ref (ad 0 4), .ref (ad 0 8)] := hP.m 0 0 (by decide)
  refine hw_ofH (by decide +kernel) rfl (Nat.le_of_ble_eq_true rfl) ?_
  intro p e s m below meth c ls Q hx hb hml hown hts hk htab hI hl hret
  refine lv_aload_n hx hb dL_saw_0 rfl (lv_at hl 2 rfl) ?_
  refine lv_iconst (v := nI 0) hx hb dL_saw_1 (by decide) ?_
  refine lv_aload_n hx hb dL_saw_2 rfl (lv_at hl 0 rfl) ?_
  refine lv_iload_n hx hb dL_saw_3 rfl (lv_at hl 1 rfl) ?_
  refine hw_yi hI (hw_xV hx hb hml hown hts hk hI (m_X5_saw l hst Z M ad S T b1 ka hP hB) cv_L_56 e0 rfl rfl ⟨rfl, rfl⟩ ⟨(Nat.le_of_ble_eq_true rfl), (Nat.le_of_ble_eq_true rfl)⟩ rfl hl.1 rfl (Nat.le_of_ble_eq_true rfl) ⟨(Nat.le_of_ble_eq_true rfl), (Nat.le_of_ble_eq_true rfl)⟩ dL_saw_4) (fun E9 ce q9 M9 H locs hI hX g1 g2 g3 => ?_) (fun r9 M9 H locs hR hI => ?_)
  · obtain ⟨hc9, hS9, rfl⟩ := hX
    rcases hs_xn2 hc9 with ⟨hc8, rfl⟩ | ⟨hc8, rfl⟩
    · refine vx_catch (name := "java/lang/IndexOutOfBoundsException") hown [] ⟨0, 16, 19, 19⟩ [⟨0, 16, 22, 13⟩] (by rw [htab]; rfl) (fun _ h => absurd h List.not_mem_nil) (by decide) (by decide) (hts _ (hw_win (w := .classLink RL 19 "java/lang/IndexOutOfBoundsException") (by decide +kernel) (by decide +kernel))) (va_Nw.use rfl (hk.2.2.2.2.2.2.1 ("java/lang/IndexOutOfBoundsException", "java/lang/IndexOutOfBoundsException") (by decide +kernel))) g1 g2 g3 ?_
      refine lv_astore_n (lv' := [(3, .ref q9), (0, .ref (ad 0 0)), (1, .int ka), (2, .ref oa)]) hx hb dL_saw_19 rfl hl (by decide) rfl (fun ls hl => ?_)
      refine lv_iconst (v := nI 1) hx hb dL_saw_20 (by decide) ?_
      exact hret hI (hl_x hP ho hc8 (by decide) hS9) (Nat.le_of_ble_eq_true rfl) (Nat.le_of_ble_eq_true rfl) dL_saw_21
    · refine vx_catch (name := "java/lang/IllegalStateException") hown [⟨0, 16, 19, 19⟩] ⟨0, 16, 22, 13⟩ [] (by rw [htab]; rfl) (List.forall_mem_cons.mpr ⟨Or.inr ⟨by decide, "java/lang/IndexOutOfBoundsException", hts _ (hw_win (w := .classLink RL 19 "java/lang/IndexOutOfBoundsException") (by decide +kernel) (by decide +kernel)), hk.2.2.2.2.2.2.2.1 ("java/lang/IllegalStateException", "java/lang/IndexOutOfBoundsException") (by decide +kernel)⟩, fun _ h => absurd h List.not_mem_nil⟩) (by decide) (by decide) (hts _ (hw_win (w := .classLink RL 13 "java/lang/IllegalStateException") (by decide +kernel) (by decide +kernel))) (va_Nw.use rfl (hk.2.2.2.2.2.2.1 ("java/lang/IllegalStateException", "java/lang/IllegalStateException") (by decide +kernel))) g1 g2 g3 ?_
      refine lv_astore_n (lv' := [(3, .ref q9), (0, .ref (ad 0 0)), (1, .int ka), (2, .ref oa)]) hx hb dL_saw_22 rfl hl (by decide) rfl (fun ls hl => ?_)
      refine lv_iconst (v := nI 2) hx hb dL_saw_23 (by decide) ?_
      exact hret hI (hl_x hP ho hc8 (by decide) hS9) (Nat.le_of_ble_eq_true rfl) (Nat.le_of_ble_eq_true rfl) dL_saw_24
  · have ho9 : M9 oa = hw_al Z 1 f := (hR.2.2.2 oa hbo).trans ho
    refine lv_if_eq (tgt := 14) hx hb dL_saw_7 (by decide) (fun c7 => ?_) (fun c7 => ?_)
    · refine lv_lconst (v := 0) hx hb dL_saw_14 (by decide) ?_
      refine hw_last hx hb hk hI ho9 (j := 0) rfl (by omega) (by decide) dL_saw_15 (fun H locs hI => ?_)
      refine lv_goto (tgt := 25) hx hb dL_saw_16 (by decide) ?_
      refine lv_iconst (v := nI 0) hx hb dL_saw_25 (by decide) ?_
      exact hret hI (hl_y hR hbo (if_pos c7).symm) (Nat.le_of_ble_eq_true rfl) (Nat.le_of_ble_eq_true rfl) dL_saw_26
    · refine lv_lconst (v := 1) hx hb dL_saw_10 (by decide) ?_
      refine lv_goto (tgt := 15) hx hb dL_saw_11 (by decide) ?_
      refine hw_last hx hb hk hI ho9 (j := 0) rfl (by omega) (by decide) dL_saw_15 (fun H locs hI => ?_)
      refine lv_goto (tgt := 25) hx hb dL_saw_16 (by decide) ?_
      refine lv_iconst (v := nI 0) hx hb dL_saw_25 (by decide) ?_
      exact hret hI (hl_y hR hbo (if_neg c7).symm) (Nat.le_of_ble_eq_true rfl) (Nat.le_of_ble_eq_true rfl) dL_saw_26

set_option maxHeartbeats 4000000 in
set_option maxRecDepth 100000 in
theorem m_L_press (l : Launch) (hst : l.stackTraces = false) (Z : hw_Z) (M : hw_M) (ad : hp_ad) (S : hs_S) (T : hp_T) (b1 : Nat → Prop) (oa : Nat) (f : Nat → Int64) (ka : Int32) (hP : hp_ok Z b1 M ad S T) (hB : hs_b S) (hbo : b1 oa) (ho : M oa = hw_al Z 1 f) : Met l yL_press (hw_mH yL_press cL_press 4 (some .int) [(0, 9, 12, 19), (0, 9, 15, 13)]) ({ frames := 10, cells := 6, slots := 36, locals := 212 } : Room) (va_Pc [.ref (ad 0 0), .int ka, .ref oa] (hw_P Z M)) (hw_Qi Z (hl_L Z b1 M ad oa (st_press S ka) (fun x => x.toInt64))) 6 36 (hw_A Z) := by
  have e0 : M (ad 0 0) = hw_ob 6 [.ref (ad 0 1), .ref (ad 0 2), .ref (ad 0 3), .int (nI (hs_np S)), .int (nI (hs_nw S)), .int (hs_G S 0), .int (hs_G S 1), .ref (ad 0 4), .ref (ad 0 8)] := hP.m 0 0 (by decide)
  refine hw_ofH (by decide +kernel) rfl (Nat.le_of_ble_eq_true rfl) ?_
  intro p e s m below meth c ls Q hx hb hml hown hts hk htab hI hl hret
  refine lv_aload_n hx hb dL_press_0 rfl (lv_at hl 2 rfl) ?_
  refine lv_iconst (v := nI 0) hx hb dL_press_1 (by decide) ?_
  refine lv_aload_n hx hb dL_press_2 rfl (lv_at hl 0 rfl) ?_
  refine lv_iload_n hx hb dL_press_3 rfl (lv_at hl 1 rfl) ?_
  refine hw_yi hI (hw_xV hx hb hml hown hts hk hI (m_X5_press l hst Z M ad S T b1 ka hP hB) cv_L_60 e0 rfl rfl ⟨rfl, rfl⟩ ⟨(Nat.le_of_ble_eq_true rfl), (Nat.le_of_ble_eq_true rfl)⟩ rfl hl.1 rfl (Nat.le_of_ble_eq_true rfl) ⟨(Nat.le_of_ble_eq_true rfl), (Nat.le_of_ble_eq_true rfl)⟩ dL_press_4) (fun E9 ce q9 M9 H locs hI hX g1 g2 g3 => ?_) (fun r9 M9 H locs hR hI => ?_)
  · obtain ⟨hc9, hS9, rfl⟩ := hX
    rcases hs_xn2 hc9 with ⟨hc8, rfl⟩ | ⟨hc8, rfl⟩
    · refine vx_catch (name := "java/lang/IndexOutOfBoundsException") hown [] ⟨0, 9, 12, 19⟩ [⟨0, 9, 15, 13⟩] (by rw [htab]; rfl) (fun _ h => absurd h List.not_mem_nil) (by decide) (by decide) (hts _ (hw_win (w := .classLink RL 19 "java/lang/IndexOutOfBoundsException") (by decide +kernel) (by decide +kernel))) (va_Nw.use rfl (hk.2.2.2.2.2.2.1 ("java/lang/IndexOutOfBoundsException", "java/lang/IndexOutOfBoundsException") (by decide +kernel))) g1 g2 g3 ?_
      refine lv_astore_n (lv' := [(3, .ref q9), (0, .ref (ad 0 0)), (1, .int ka), (2, .ref oa)]) hx hb dL_press_12 rfl hl (by decide) rfl (fun ls hl => ?_)
      refine lv_iconst (v := nI 1) hx hb dL_press_13 (by decide) ?_
      exact hret hI (hl_x hP ho hc8 (by decide) hS9) (Nat.le_of_ble_eq_true rfl) (Nat.le_of_ble_eq_true rfl) dL_press_14
    · refine vx_catch (name := "java/lang/IllegalStateException") hown [⟨0, 9, 12, 19⟩] ⟨0, 9, 15, 13⟩ [] (by rw [htab]; rfl) (List.forall_mem_cons.mpr ⟨Or.inr ⟨by decide, "java/lang/IndexOutOfBoundsException", hts _ (hw_win (w := .classLink RL 19 "java/lang/IndexOutOfBoundsException") (by decide +kernel) (by decide +kernel)), hk.2.2.2.2.2.2.2.1 ("java/lang/IllegalStateException", "java/lang/IndexOutOfBoundsException") (by decide +kernel)⟩, fun _ h => absurd h List.not_mem_nil⟩) (by decide) (by decide) (hts _ (hw_win (w := .classLink RL 13 "java/lang/IllegalStateException") (by decide +kernel) (by decide +kernel))) (va_Nw.use rfl (hk.2.2.2.2.2.2.1 ("java/lang/IllegalStateException", "java/lang/IllegalStateException") (by decide +kernel))) g1 g2 g3 ?_
      refine lv_astore_n (lv' := [(3, .ref q9), (0, .ref (ad 0 0)), (1, .int ka), (2, .ref oa)]) hx hb dL_press_15 rfl hl (by decide) rfl (fun ls hl => ?_)
      refine lv_iconst (v := nI 2) hx hb dL_press_16 (by decide) ?_
      exact hret hI (hl_x hP ho hc8 (by decide) hS9) (Nat.le_of_ble_eq_true rfl) (Nat.le_of_ble_eq_true rfl) dL_press_17
  · have ho9 : M9 oa = hw_al Z 1 f := (hR.2.2.2 oa hbo).trans ho
    refine lv_i2l (v := r9.toInt64) hx hb dL_press_7 rfl ?_
    refine hw_last hx hb hk hI ho9 (j := 0) rfl (by omega) (by decide) dL_press_8 (fun H locs hI => ?_)
    refine lv_goto (tgt := 18) hx hb dL_press_9 (by decide) ?_
    refine lv_iconst (v := nI 0) hx hb dL_press_18 (by decide) ?_
    exact hret hI (hl_y hR hbo rfl) (Nat.le_of_ble_eq_true rfl) (Nat.le_of_ble_eq_true rfl) dL_press_19

set_option maxHeartbeats 4000000 in
set_option maxRecDepth 100000 in
theorem m_L_prove (l : Launch) (hst : l.stackTraces = false) (Z : hw_Z) (M : hw_M) (ad : hp_ad) (S : hs_S) (T : hp_T) (b1 : Nat → Prop) (oa : Nat) (f : Nat → Int64) (ka : Int32) (hP : hp_ok Z b1 M ad S T) (hB : hs_b S) (hbo : b1 oa) (ho : M oa = hw_al Z 1 f) : Met l yL_prove (hw_mH yL_prove cL_prove 4 (some .int) [(0, 16, 19, 19), (0, 16, 22, 13)]) ({ frames := 10, cells := 6, slots := 36, locals := 212 } : Room) (va_Pc [.ref (ad 0 0), .int ka, .ref oa] (hw_P Z M)) (hw_Qi Z (hl_L Z b1 M ad oa (st_prove S ka) (fun x => if x = 0 then 0 else 1))) 6 36 (hw_A Z) := by
  have e0 : M (ad 0 0) = hw_ob 6 [.ref (ad 0 1), .ref (ad 0 2), .ref (ad 0 3), .int (nI (hs_np S)), .int (nI (hs_nw S)), .int (hs_G S 0), .int (hs_G S 1), .ref (ad 0 4), .ref (ad 0 8)] := hP.m 0 0 (by decide)
  refine hw_ofH (by decide +kernel) rfl (Nat.le_of_ble_eq_true rfl) ?_
  intro p e s m below meth c ls Q hx hb hml hown hts hk htab hI hl hret
  refine lv_aload_n hx hb dL_prove_0 rfl (lv_at hl 2 rfl) ?_
  refine lv_iconst (v := nI 0) hx hb dL_prove_1 (by decide) ?_
  refine lv_aload_n hx hb dL_prove_2 rfl (lv_at hl 0 rfl) ?_
  refine lv_iload_n hx hb dL_prove_3 rfl (lv_at hl 1 rfl) ?_
  refine hw_yi hI (hw_xV hx hb hml hown hts hk hI (m_X5_prove l hst Z M ad S T b1 ka hP hB) cv_L_63 e0 rfl rfl ⟨rfl, rfl⟩ ⟨(Nat.le_of_ble_eq_true rfl), (Nat.le_of_ble_eq_true rfl)⟩ rfl hl.1 rfl (Nat.le_of_ble_eq_true rfl) ⟨(Nat.le_of_ble_eq_true rfl), (Nat.le_of_ble_eq_true rfl)⟩ dL_prove_4) (fun E9 ce q9 M9 H locs hI hX g1 g2 g3 => ?_) (fun r9 M9 H locs hR hI => ?_)
  · obtain ⟨hc9, hS9, rfl⟩ := hX
    rcases hs_xn2 hc9 with ⟨hc8, rfl⟩ | ⟨hc8, rfl⟩
    · refine vx_catch (name := "java/lang/IndexOutOfBoundsException") hown [] ⟨0, 16, 19, 19⟩ [⟨0, 16, 22, 13⟩] (by rw [htab]; rfl) (fun _ h => absurd h List.not_mem_nil) (by decide) (by decide) (hts _ (hw_win (w := .classLink RL 19 "java/lang/IndexOutOfBoundsException") (by decide +kernel) (by decide +kernel))) (va_Nw.use rfl (hk.2.2.2.2.2.2.1 ("java/lang/IndexOutOfBoundsException", "java/lang/IndexOutOfBoundsException") (by decide +kernel))) g1 g2 g3 ?_
      refine lv_astore_n (lv' := [(3, .ref q9), (0, .ref (ad 0 0)), (1, .int ka), (2, .ref oa)]) hx hb dL_prove_19 rfl hl (by decide) rfl (fun ls hl => ?_)
      refine lv_iconst (v := nI 1) hx hb dL_prove_20 (by decide) ?_
      exact hret hI (hl_x hP ho hc8 (by decide) hS9) (Nat.le_of_ble_eq_true rfl) (Nat.le_of_ble_eq_true rfl) dL_prove_21
    · refine vx_catch (name := "java/lang/IllegalStateException") hown [⟨0, 16, 19, 19⟩] ⟨0, 16, 22, 13⟩ [] (by rw [htab]; rfl) (List.forall_mem_cons.mpr ⟨Or.inr ⟨by decide, "java/lang/IndexOutOfBoundsException", hts _ (hw_win (w := .classLink RL 19 "java/lang/IndexOutOfBoundsException") (by decide +kernel) (by decide +kernel)), hk.2.2.2.2.2.2.2.1 ("java/lang/IllegalStateException", "java/lang/IndexOutOfBoundsException") (by decide +kernel)⟩, fun _ h => absurd h List.not_mem_nil⟩) (by decide) (by decide) (hts _ (hw_win (w := .classLink RL 13 "java/lang/IllegalStateException") (by decide +kernel) (by decide +kernel))) (va_Nw.use rfl (hk.2.2.2.2.2.2.1 ("java/lang/IllegalStateException", "java/lang/IllegalStateException") (by decide +kernel))) g1 g2 g3 ?_
      refine lv_astore_n (lv' := [(3, .ref q9), (0, .ref (ad 0 0)), (1, .int ka), (2, .ref oa)]) hx hb dL_prove_22 rfl hl (by decide) rfl (fun ls hl => ?_)
      refine lv_iconst (v := nI 2) hx hb dL_prove_23 (by decide) ?_
      exact hret hI (hl_x hP ho hc8 (by decide) hS9) (Nat.le_of_ble_eq_true rfl) (Nat.le_of_ble_eq_true rfl) dL_prove_24
  · have ho9 : M9 oa = hw_al Z 1 f := (hR.2.2.2 oa hbo).trans ho
    refine lv_if_eq (tgt := 14) hx hb dL_prove_7 (by decide) (fun c7 => ?_) (fun c7 => ?_)
    · refine lv_lconst (v := 0) hx hb dL_prove_14 (by decide) ?_
      refine hw_last hx hb hk hI ho9 (j := 0) rfl (by omega) (by decide) dL_prove_15 (fun H locs hI => ?_)
      refine lv_goto (tgt := 25) hx hb dL_prove_16 (by decide) ?_
      refine lv_iconst (v := nI 0) hx hb dL_prove_25 (by decide) ?_
      exact hret hI (hl_y hR hbo (if_pos c7).symm) (Nat.le_of_ble_eq_true rfl) (Nat.le_of_ble_eq_true rfl) dL_prove_26
    · refine lv_lconst (v := 1) hx hb dL_prove_10 (by decide) ?_
      refine lv_goto (tgt := 15) hx hb dL_prove_11 (by decide) ?_
      refine hw_last hx hb hk hI ho9 (j := 0) rfl (by omega) (by decide) dL_prove_15 (fun H locs hI => ?_)
      refine lv_goto (tgt := 25) hx hb dL_prove_16 (by decide) ?_
      refine lv_iconst (v := nI 0) hx hb dL_prove_25 (by decide) ?_
      exact hret hI (hl_y hR hbo (if_neg c7).symm) (Nat.le_of_ble_eq_true rfl) (Nat.le_of_ble_eq_true rfl) dL_prove_26

set_option maxHeartbeats 4000000 in
set_option maxRecDepth 100000 in
theorem m_L_accept (l : Launch) (hst : l.stackTraces = false) (Z : hw_Z) (M : hw_M) (ad : hp_ad) (S : hs_S) (T : hp_T) (b1 : Nat → Prop) (oa : Nat) (f : Nat → Int64) (ka : Int32) (hP : hp_ok Z b1 M ad S T) (hB : hs_b S) (hbo : b1 oa) (ho : M oa = hw_al Z 1 f) : Met l yL_accept (hw_mH yL_accept cL_accept 4 (some .int) [(0, 9, 12, 19), (0, 9, 15, 13)]) ({ frames := 10, cells := 6, slots := 36, locals := 212 } : Room) (va_Pc [.ref (ad 0 0), .int ka, .ref oa] (hw_P Z M)) (hw_Qi Z (hl_L Z b1 M ad oa (st_accept S ka) (fun x => x.toInt64))) 6 36 (hw_A Z) := by
  have e0 : M (ad 0 0) = hw_ob 6 [.ref (ad 0 1), .ref (ad 0 2), .ref (ad 0 3), .int (nI (hs_np S)), .int (nI (hs_nw S)), .int (hs_G S 0), .int (hs_G S 1), .ref (ad 0 4), .ref (ad 0 8)] := hP.m 0 0 (by decide)
  refine hw_ofH (by decide +kernel) rfl (Nat.le_of_ble_eq_true rfl) ?_
  intro p e s m below meth c ls Q hx hb hml hown hts hk htab hI hl hret
  refine lv_aload_n hx hb dL_accept_0 rfl (lv_at hl 2 rfl) ?_
  refine lv_iconst (v := nI 0) hx hb dL_accept_1 (by decide) ?_
  refine lv_aload_n hx hb dL_accept_2 rfl (lv_at hl 0 rfl) ?_
  refine lv_iload_n hx hb dL_accept_3 rfl (lv_at hl 1 rfl) ?_
  refine hw_yi hI (hw_xV hx hb hml hown hts hk hI (m_X5_accept l hst Z M ad S T b1 ka hP hB) cv_L_66 e0 rfl rfl ⟨rfl, rfl⟩ ⟨(Nat.le_of_ble_eq_true rfl), (Nat.le_of_ble_eq_true rfl)⟩ rfl hl.1 rfl (Nat.le_of_ble_eq_true rfl) ⟨(Nat.le_of_ble_eq_true rfl), (Nat.le_of_ble_eq_true rfl)⟩ dL_accept_4) (fun E9 ce q9 M9 H locs hI hX g1 g2 g3 => ?_) (fun r9 M9 H locs hR hI => ?_)
  · obtain ⟨hc9, hS9, rfl⟩ := hX
    rcases hs_xn2 hc9 with ⟨hc8, rfl⟩ | ⟨hc8, rfl⟩
    · refine vx_catch (name := "java/lang/IndexOutOfBoundsException") hown [] ⟨0, 9, 12, 19⟩ [⟨0, 9, 15, 13⟩] (by rw [htab]; rfl) (fun _ h => absurd h List.not_mem_nil) (by decide) (by decide) (hts _ (hw_win (w := .classLink RL 19 "java/lang/IndexOutOfBoundsException") (by decide +kernel) (by decide +kernel))) (va_Nw.use rfl (hk.2.2.2.2.2.2.1 ("java/lang/IndexOutOfBoundsException", "java/lang/IndexOutOfBoundsException") (by decide +kernel))) g1 g2 g3 ?_
      refine lv_astore_n (lv' := [(3, .ref q9), (0, .ref (ad 0 0)), (1, .int ka), (2, .ref oa)]) hx hb dL_accept_12 rfl hl (by decide) rfl (fun ls hl => ?_)
      refine lv_iconst (v := nI 1) hx hb dL_accept_13 (by decide) ?_
      exact hret hI (hl_x hP ho hc8 (by decide) hS9) (Nat.le_of_ble_eq_true rfl) (Nat.le_of_ble_eq_true rfl) dL_accept_14
    · refine vx_catch (name := "java/lang/IllegalStateException") hown [⟨0, 9, 12, 19⟩] ⟨0, 9, 15, 13⟩ [] (by rw [htab]; rfl) (List.forall_mem_cons.mpr ⟨Or.inr ⟨by decide, "java/lang/IndexOutOfBoundsException", hts _ (hw_win (w := .classLink RL 19 "java/lang/IndexOutOfBoundsException") (by decide +kernel) (by decide +kernel)), hk.2.2.2.2.2.2.2.1 ("java/lang/IllegalStateException", "java/lang/IndexOutOfBoundsException") (by decide +kernel)⟩, fun _ h => absurd h List.not_mem_nil⟩) (by decide) (by decide) (hts _ (hw_win (w := .classLink RL 13 "java/lang/IllegalStateException") (by decide +kernel) (by decide +kernel))) (va_Nw.use rfl (hk.2.2.2.2.2.2.1 ("java/lang/IllegalStateException", "java/lang/IllegalStateException") (by decide +kernel))) g1 g2 g3 ?_
      refine lv_astore_n (lv' := [(3, .ref q9), (0, .ref (ad 0 0)), (1, .int ka), (2, .ref oa)]) hx hb dL_accept_15 rfl hl (by decide) rfl (fun ls hl => ?_)
      refine lv_iconst (v := nI 2) hx hb dL_accept_16 (by decide) ?_
      exact hret hI (hl_x hP ho hc8 (by decide) hS9) (Nat.le_of_ble_eq_true rfl) (Nat.le_of_ble_eq_true rfl) dL_accept_17
  · have ho9 : M9 oa = hw_al Z 1 f := (hR.2.2.2 oa hbo).trans ho
    refine lv_i2l (v := r9.toInt64) hx hb dL_accept_7 rfl ?_
    refine hw_last hx hb hk hI ho9 (j := 0) rfl (by omega) (by decide) dL_accept_8 (fun H locs hI => ?_)
    refine lv_goto (tgt := 18) hx hb dL_accept_9 (by decide) ?_
    refine lv_iconst (v := nI 0) hx hb dL_accept_18 (by decide) ?_
    exact hret hI (hl_y hR hbo rfl) (Nat.le_of_ble_eq_true rfl) (Nat.le_of_ble_eq_true rfl) dL_accept_19

set_option maxHeartbeats 4000000 in
set_option maxRecDepth 100000 in
theorem m_L_ofPiece (l : Launch) (hst : l.stackTraces = false) (Z : hw_Z) (M : hw_M) (ad : hp_ad) (S : hs_S) (T : hp_T) (b1 : Nat → Prop) (oa : Nat) (f : Nat → Int64) (ka : Int32) (kw : Int32) (hP : hp_ok Z b1 M ad S T) (hB : hs_b S) (hbo : b1 oa) (ho : M oa = hw_al Z 1 f) : Met l yL_ofPiece (hw_mH yL_ofPiece cL_ofPiece 5 (some .int) [(0, 10, 13, 19), (0, 10, 17, 25)]) ({ frames := 10, cells := 6, slots := 36, locals := 213 } : Room) (va_Pc [.ref (ad 0 0), .int ka, .int kw, .ref oa] (hw_P Z M)) (hw_Qi Z (hl_L Z b1 M ad oa (st_ofPiece S ka kw) (fun x => x.toInt64))) 6 36 (hw_A Z) := by
  have e0 : M (ad 0 0) = hw_ob 6 [.ref (ad 0 1), .ref (ad 0 2), .ref (ad 0 3), .int (nI (hs_np S)), .int (nI (hs_nw S)), .int (hs_G S 0), .int (hs_G S 1), .ref (ad 0 4), .ref (ad 0 8)] := hP.m 0 0 (by decide)
  refine hw_ofH (by decide +kernel) rfl (Nat.le_of_ble_eq_true rfl) ?_
  intro p e s m below meth c ls Q hx hb hml hown hts hk htab hI hl hret
  refine lv_aload_n hx hb dL_ofPiece_0 rfl (lv_at hl 3 rfl) ?_
  refine lv_iconst (v := nI 0) hx hb dL_ofPiece_1 (by decide) ?_
  refine lv_aload_n hx hb dL_ofPiece_2 rfl (lv_at hl 0 rfl) ?_
  refine lv_iload_n hx hb dL_ofPiece_3 rfl (lv_at hl 1 rfl) ?_
  refine lv_iload_n hx hb dL_ofPiece_4 rfl (lv_at hl 2 rfl) ?_
  refine hw_yi hI (hw_xV hx hb hml hown hts hk hI (m_X5_ofPiece l hst Z M ad S T b1 ka kw hP hB) cv_L_69 e0 rfl rfl ⟨rfl, rfl⟩ ⟨(Nat.le_of_ble_eq_true rfl), (Nat.le_of_ble_eq_true rfl)⟩ rfl hl.1 rfl (Nat.le_of_ble_eq_true rfl) ⟨(Nat.le_of_ble_eq_true rfl), (Nat.le_of_ble_eq_true rfl)⟩ dL_ofPiece_5) (fun E9 ce q9 M9 H locs hI hX g1 g2 g3 => ?_) (fun r9 M9 H locs hR hI => ?_)
  · obtain ⟨hc9, hS9, rfl⟩ := hX
    rcases hs_xn2 hc9 with ⟨hc8, rfl⟩ | ⟨hc8, rfl⟩
    · refine vx_catch (name := "java/lang/IndexOutOfBoundsException") hown [] ⟨0, 10, 13, 19⟩ [⟨0, 10, 17, 25⟩] (by rw [htab]; rfl) (fun _ h => absurd h List.not_mem_nil) (by decide) (by decide) (hts _ (hw_win (w := .classLink RL 19 "java/lang/IndexOutOfBoundsException") (by decide +kernel) (by decide +kernel))) (va_Nw.use rfl (hk.2.2.2.2.2.2.1 ("java/lang/IndexOutOfBoundsException", "java/lang/IndexOutOfBoundsException") (by decide +kernel))) g1 g2 g3 ?_
      refine lv_astore (lv' := [(4, .ref q9), (0, .ref (ad 0 0)), (1, .int ka), (2, .int kw), (3, .ref oa)]) hx hb dL_ofPiece_13 hl (by decide) rfl (fun ls hl => ?_)
      refine lv_iconst (v := nI 1) hx hb dL_ofPiece_15 (by decide) ?_
      exact hret hI (hl_x hP ho hc8 (by decide) hS9) (Nat.le_of_ble_eq_true rfl) (Nat.le_of_ble_eq_true rfl) dL_ofPiece_16
    · refine vx_catch (name := "java/lang/IllegalArgumentException") hown [⟨0, 10, 13, 19⟩] ⟨0, 10, 17, 25⟩ [] (by rw [htab]; rfl) (List.forall_mem_cons.mpr ⟨Or.inr ⟨by decide, "java/lang/IndexOutOfBoundsException", hts _ (hw_win (w := .classLink RL 19 "java/lang/IndexOutOfBoundsException") (by decide +kernel) (by decide +kernel)), hk.2.2.2.2.2.2.2.1 ("java/lang/IllegalArgumentException", "java/lang/IndexOutOfBoundsException") (by decide +kernel)⟩, fun _ h => absurd h List.not_mem_nil⟩) (by decide) (by decide) (hts _ (hw_win (w := .classLink RL 25 "java/lang/IllegalArgumentException") (by decide +kernel) (by decide +kernel))) (va_Nw.use rfl (hk.2.2.2.2.2.2.1 ("java/lang/IllegalArgumentException", "java/lang/IllegalArgumentException") (by decide +kernel))) g1 g2 g3 ?_
      refine lv_astore (lv' := [(4, .ref q9), (0, .ref (ad 0 0)), (1, .int ka), (2, .int kw), (3, .ref oa)]) hx hb dL_ofPiece_17 hl (by decide) rfl (fun ls hl => ?_)
      refine lv_iconst (v := nI 2) hx hb dL_ofPiece_19 (by decide) ?_
      exact hret hI (hl_x hP ho hc8 (by decide) hS9) (Nat.le_of_ble_eq_true rfl) (Nat.le_of_ble_eq_true rfl) dL_ofPiece_20
  · replace hR := hq_N.R (Z := Z) (b1 := b1) (ad := ad) hR hP
    have ho9 : M9 oa = hw_al Z 1 f := (hR.2.2.2 oa hbo).trans ho
    refine lv_i2l (v := r9.toInt64) hx hb dL_ofPiece_8 rfl ?_
    refine hw_last hx hb hk hI ho9 (j := 0) rfl (by omega) (by decide) dL_ofPiece_9 (fun H locs hI => ?_)
    refine lv_goto (tgt := 21) hx hb dL_ofPiece_10 (by decide) ?_
    refine lv_iconst (v := nI 0) hx hb dL_ofPiece_21 (by decide) ?_
    exact hret hI (hl_y hR hbo rfl) (Nat.le_of_ble_eq_true rfl) (Nat.le_of_ble_eq_true rfl) dL_ofPiece_22

set_option maxHeartbeats 4000000 in
set_option maxRecDepth 100000 in
theorem m_L_ofLayer (l : Launch) (hst : l.stackTraces = false) (Z : hw_Z) (M : hw_M) (ad : hp_ad) (S : hs_S) (T : hp_T) (b1 : Nat → Prop) (oa : Nat) (f : Nat → Int64) (ka : Int32) (kb : Int32) (kw : Int32) (hP : hp_ok Z b1 M ad S T) (hB : hs_b S) (hbo : b1 oa) (ho : M oa = hw_al Z 1 f) : Met l yL_ofLayer (hw_mH yL_ofLayer cL_ofLayer 6 (some .int) [(0, 11, 14, 19), (0, 11, 18, 25)]) ({ frames := 10, cells := 6, slots := 36, locals := 214 } : Room) (va_Pc [.ref (ad 0 0), .int ka, .int kb, .int kw, .ref oa] (hw_P Z M)) (hw_Qi Z (hl_L Z b1 M ad oa (st_ofLayer S ka kb kw) (fun x => x))) 6 36 (hw_A Z) := by
  have e0 : M (ad 0 0) = hw_ob 6 [.ref (ad 0 1), .ref (ad 0 2), .ref (ad 0 3), .int (nI (hs_np S)), .int (nI (hs_nw S)), .int (hs_G S 0), .int (hs_G S 1), .ref (ad 0 4), .ref (ad 0 8)] := hP.m 0 0 (by decide)
  refine hw_ofH (by decide +kernel) rfl (Nat.le_of_ble_eq_true rfl) ?_
  intro p e s m below meth c ls Q hx hb hml hown hts hk htab hI hl hret
  refine lv_aload hx hb dL_ofLayer_0 (lv_at hl 4 rfl) ?_
  refine lv_iconst (v := nI 0) hx hb dL_ofLayer_2 (by decide) ?_
  refine lv_aload_n hx hb dL_ofLayer_3 rfl (lv_at hl 0 rfl) ?_
  refine lv_iload_n hx hb dL_ofLayer_4 rfl (lv_at hl 1 rfl) ?_
  refine lv_iload_n hx hb dL_ofLayer_5 rfl (lv_at hl 2 rfl) ?_
  refine lv_iload_n hx hb dL_ofLayer_6 rfl (lv_at hl 3 rfl) ?_
  refine hw_yl hI (hw_xV hx hb hml hown hts hk hI (m_X5_ofLayer l hst Z M ad S T b1 ka kb kw hP hB) cv_L_72 e0 rfl rfl ⟨rfl, rfl⟩ ⟨(Nat.le_of_ble_eq_true rfl), (Nat.le_of_ble_eq_true rfl)⟩ rfl hl.1 rfl (Nat.le_of_ble_eq_true rfl) ⟨(Nat.le_of_ble_eq_true rfl), (Nat.le_of_ble_eq_true rfl)⟩ dL_ofLayer_7) (fun E9 ce q9 M9 H locs hI hX g1 g2 g3 => ?_) (fun r9 M9 H locs hR hI => ?_)
  · obtain ⟨hc9, hS9, rfl⟩ := hX
    rcases hs_xn2 hc9 with ⟨hc8, rfl⟩ | ⟨hc8, rfl⟩
    · refine vx_catch (name := "java/lang/IndexOutOfBoundsException") hown [] ⟨0, 11, 14, 19⟩ [⟨0, 11, 18, 25⟩] (by rw [htab]; rfl) (fun _ h => absurd h List.not_mem_nil) (by decide) (by decide) (hts _ (hw_win (w := .classLink RL 19 "java/lang/IndexOutOfBoundsException") (by decide +kernel) (by decide +kernel))) (va_Nw.use rfl (hk.2.2.2.2.2.2.1 ("java/lang/IndexOutOfBoundsException", "java/lang/IndexOutOfBoundsException") (by decide +kernel))) g1 g2 g3 ?_
      refine lv_astore (lv' := [(5, .ref q9), (0, .ref (ad 0 0)), (1, .int ka), (2, .int kb), (3, .int kw), (4, .ref oa)]) hx hb dL_ofLayer_14 hl (by decide) rfl (fun ls hl => ?_)
      refine lv_iconst (v := nI 1) hx hb dL_ofLayer_16 (by decide) ?_
      exact hret hI (hl_x hP ho hc8 (by decide) hS9) (Nat.le_of_ble_eq_true rfl) (Nat.le_of_ble_eq_true rfl) dL_ofLayer_17
    · refine vx_catch (name := "java/lang/IllegalArgumentException") hown [⟨0, 11, 14, 19⟩] ⟨0, 11, 18, 25⟩ [] (by rw [htab]; rfl) (List.forall_mem_cons.mpr ⟨Or.inr ⟨by decide, "java/lang/IndexOutOfBoundsException", hts _ (hw_win (w := .classLink RL 19 "java/lang/IndexOutOfBoundsException") (by decide +kernel) (by decide +kernel)), hk.2.2.2.2.2.2.2.1 ("java/lang/IllegalArgumentException", "java/lang/IndexOutOfBoundsException") (by decide +kernel)⟩, fun _ h => absurd h List.not_mem_nil⟩) (by decide) (by decide) (hts _ (hw_win (w := .classLink RL 25 "java/lang/IllegalArgumentException") (by decide +kernel) (by decide +kernel))) (va_Nw.use rfl (hk.2.2.2.2.2.2.1 ("java/lang/IllegalArgumentException", "java/lang/IllegalArgumentException") (by decide +kernel))) g1 g2 g3 ?_
      refine lv_astore (lv' := [(5, .ref q9), (0, .ref (ad 0 0)), (1, .int ka), (2, .int kb), (3, .int kw), (4, .ref oa)]) hx hb dL_ofLayer_18 hl (by decide) rfl (fun ls hl => ?_)
      refine lv_iconst (v := nI 2) hx hb dL_ofLayer_20 (by decide) ?_
      exact hret hI (hl_x hP ho hc8 (by decide) hS9) (Nat.le_of_ble_eq_true rfl) (Nat.le_of_ble_eq_true rfl) dL_ofLayer_21
  · replace hR := hq_N.R (Z := Z) (b1 := b1) (ad := ad) hR hP
    have ho9 : M9 oa = hw_al Z 1 f := (hR.2.2.2 oa hbo).trans ho
    refine hw_last hx hb hk hI ho9 (j := 0) rfl (by omega) (by decide) dL_ofLayer_10 (fun H locs hI => ?_)
    refine lv_goto (tgt := 22) hx hb dL_ofLayer_11 (by decide) ?_
    refine lv_iconst (v := nI 0) hx hb dL_ofLayer_22 (by decide) ?_
    exact hret hI (hl_y hR hbo rfl) (Nat.le_of_ble_eq_true rfl) (Nat.le_of_ble_eq_true rfl) dL_ofLayer_23

set_option maxHeartbeats 4000000 in
set_option maxRecDepth 100000 in
theorem m_L_ofPowder (l : Launch) (hst : l.stackTraces = false) (Z : hw_Z) (M : hw_M) (ad : hp_ad) (S : hs_S) (T : hp_T) (b1 : Nat → Prop) (oa : Nat) (f : Nat → Int64) (ka : Int32) (kw : Int32) (hP : hp_ok Z b1 M ad S T) (hB : hs_b S) (hbo : b1 oa) (ho : M oa = hw_al Z 1 f) : Met l yL_ofPowder (hw_mH yL_ofPowder cL_ofPowder 5 (some .int) [(0, 10, 13, 19), (0, 10, 17, 25)]) ({ frames := 10, cells := 6, slots := 36, locals := 213 } : Room) (va_Pc [.ref (ad 0 0), .int ka, .int kw, .ref oa] (hw_P Z M)) (hw_Qi Z (hl_L Z b1 M ad oa (st_ofPowder S ka kw) (fun x => x.toInt64))) 6 36 (hw_A Z) := by
  have e0 : M (ad 0 0) = hw_ob 6 [.ref (ad 0 1), .ref (ad 0 2), .ref (ad 0 3), .int (nI (hs_np S)), .int (nI (hs_nw S)), .int (hs_G S 0), .int (hs_G S 1), .ref (ad 0 4), .ref (ad 0 8)] := hP.m 0 0 (by decide)
  refine hw_ofH (by decide +kernel) rfl (Nat.le_of_ble_eq_true rfl) ?_
  intro p e s m below meth c ls Q hx hb hml hown hts hk htab hI hl hret
  refine lv_aload_n hx hb dL_ofPowder_0 rfl (lv_at hl 3 rfl) ?_
  refine lv_iconst (v := nI 0) hx hb dL_ofPowder_1 (by decide) ?_
  refine lv_aload_n hx hb dL_ofPowder_2 rfl (lv_at hl 0 rfl) ?_
  refine lv_iload_n hx hb dL_ofPowder_3 rfl (lv_at hl 1 rfl) ?_
  refine lv_iload_n hx hb dL_ofPowder_4 rfl (lv_at hl 2 rfl) ?_
  refine hw_yi hI (hw_xV hx hb hml hown hts hk hI (m_X5_ofPowder l hst Z M ad S T b1 ka kw hP hB) cv_L_76 e0 rfl rfl ⟨rfl, rfl⟩ ⟨(Nat.le_of_ble_eq_true rfl), (Nat.le_of_ble_eq_true rfl)⟩ rfl hl.1 rfl (Nat.le_of_ble_eq_true rfl) ⟨(Nat.le_of_ble_eq_true rfl), (Nat.le_of_ble_eq_true rfl)⟩ dL_ofPowder_5) (fun E9 ce q9 M9 H locs hI hX g1 g2 g3 => ?_) (fun r9 M9 H locs hR hI => ?_)
  · obtain ⟨hc9, hS9, rfl⟩ := hX
    rcases hs_xn2 hc9 with ⟨hc8, rfl⟩ | ⟨hc8, rfl⟩
    · refine vx_catch (name := "java/lang/IndexOutOfBoundsException") hown [] ⟨0, 10, 13, 19⟩ [⟨0, 10, 17, 25⟩] (by rw [htab]; rfl) (fun _ h => absurd h List.not_mem_nil) (by decide) (by decide) (hts _ (hw_win (w := .classLink RL 19 "java/lang/IndexOutOfBoundsException") (by decide +kernel) (by decide +kernel))) (va_Nw.use rfl (hk.2.2.2.2.2.2.1 ("java/lang/IndexOutOfBoundsException", "java/lang/IndexOutOfBoundsException") (by decide +kernel))) g1 g2 g3 ?_
      refine lv_astore (lv' := [(4, .ref q9), (0, .ref (ad 0 0)), (1, .int ka), (2, .int kw), (3, .ref oa)]) hx hb dL_ofPowder_13 hl (by decide) rfl (fun ls hl => ?_)
      refine lv_iconst (v := nI 1) hx hb dL_ofPowder_15 (by decide) ?_
      exact hret hI (hl_x hP ho hc8 (by decide) hS9) (Nat.le_of_ble_eq_true rfl) (Nat.le_of_ble_eq_true rfl) dL_ofPowder_16
    · refine vx_catch (name := "java/lang/IllegalArgumentException") hown [⟨0, 10, 13, 19⟩] ⟨0, 10, 17, 25⟩ [] (by rw [htab]; rfl) (List.forall_mem_cons.mpr ⟨Or.inr ⟨by decide, "java/lang/IndexOutOfBoundsException", hts _ (hw_win (w := .classLink RL 19 "java/lang/IndexOutOfBoundsException") (by decide +kernel) (by decide +kernel)), hk.2.2.2.2.2.2.2.1 ("java/lang/IllegalArgumentException", "java/lang/IndexOutOfBoundsException") (by decide +kernel)⟩, fun _ h => absurd h List.not_mem_nil⟩) (by decide) (by decide) (hts _ (hw_win (w := .classLink RL 25 "java/lang/IllegalArgumentException") (by decide +kernel) (by decide +kernel))) (va_Nw.use rfl (hk.2.2.2.2.2.2.1 ("java/lang/IllegalArgumentException", "java/lang/IllegalArgumentException") (by decide +kernel))) g1 g2 g3 ?_
      refine lv_astore (lv' := [(4, .ref q9), (0, .ref (ad 0 0)), (1, .int ka), (2, .int kw), (3, .ref oa)]) hx hb dL_ofPowder_17 hl (by decide) rfl (fun ls hl => ?_)
      refine lv_iconst (v := nI 2) hx hb dL_ofPowder_19 (by decide) ?_
      exact hret hI (hl_x hP ho hc8 (by decide) hS9) (Nat.le_of_ble_eq_true rfl) (Nat.le_of_ble_eq_true rfl) dL_ofPowder_20
  · replace hR := hq_N.R (Z := Z) (b1 := b1) (ad := ad) hR hP
    have ho9 : M9 oa = hw_al Z 1 f := (hR.2.2.2 oa hbo).trans ho
    refine lv_i2l (v := r9.toInt64) hx hb dL_ofPowder_8 rfl ?_
    refine hw_last hx hb hk hI ho9 (j := 0) rfl (by omega) (by decide) dL_ofPowder_9 (fun H locs hI => ?_)
    refine lv_goto (tgt := 21) hx hb dL_ofPowder_10 (by decide) ?_
    refine lv_iconst (v := nI 0) hx hb dL_ofPowder_21 (by decide) ?_
    exact hret hI (hl_y hR hbo rfl) (Nat.le_of_ble_eq_true rfl) (Nat.le_of_ble_eq_true rfl) dL_ofPowder_22

set_option maxHeartbeats 4000000 in
set_option maxRecDepth 100000 in
theorem m_L_ofMachine (l : Launch) (hst : l.stackTraces = false) (Z : hw_Z) (M : hw_M) (ad : hp_ad) (S : hs_S) (T : hp_T) (b1 : Nat → Prop) (oa : Nat) (f : Nat → Int64) (ka : Int32) (kw : Int32) (hP : hp_ok Z b1 M ad S T) (hB : hs_b S) (hbo : b1 oa) (ho : M oa = hw_al Z 1 f) : Met l yL_ofMachine (hw_mH yL_ofMachine cL_ofMachine 5 (some .int) [(0, 10, 13, 19), (0, 10, 17, 25)]) ({ frames := 10, cells := 6, slots := 36, locals := 213 } : Room) (va_Pc [.ref (ad 0 0), .int ka, .int kw, .ref oa] (hw_P Z M)) (hw_Qi Z (hl_L Z b1 M ad oa (st_ofMachine S ka kw) (fun x => x.toInt64))) 6 36 (hw_A Z) := by
  have e0 : M (ad 0 0) = hw_ob 6 [.ref (ad 0 1), .ref (ad 0 2), .ref (ad 0 3), .int (nI (hs_np S)), .int (nI (hs_nw S)), .int (hs_G S 0), .int (hs_G S 1), .ref (ad 0 4), .ref (ad 0 8)] := hP.m 0 0 (by decide)
  refine hw_ofH (by decide +kernel) rfl (Nat.le_of_ble_eq_true rfl) ?_
  intro p e s m below meth c ls Q hx hb hml hown hts hk htab hI hl hret
  refine lv_aload_n hx hb dL_ofMachine_0 rfl (lv_at hl 3 rfl) ?_
  refine lv_iconst (v := nI 0) hx hb dL_ofMachine_1 (by decide) ?_
  refine lv_aload_n hx hb dL_ofMachine_2 rfl (lv_at hl 0 rfl) ?_
  refine lv_iload_n hx hb dL_ofMachine_3 rfl (lv_at hl 1 rfl) ?_
  refine lv_iload_n hx hb dL_ofMachine_4 rfl (lv_at hl 2 rfl) ?_
  refine hw_yi hI (hw_xV hx hb hml hown hts hk hI (m_X5_ofMachine l hst Z M ad S T b1 ka kw hP hB) cv_L_79 e0 rfl rfl ⟨rfl, rfl⟩ ⟨(Nat.le_of_ble_eq_true rfl), (Nat.le_of_ble_eq_true rfl)⟩ rfl hl.1 rfl (Nat.le_of_ble_eq_true rfl) ⟨(Nat.le_of_ble_eq_true rfl), (Nat.le_of_ble_eq_true rfl)⟩ dL_ofMachine_5) (fun E9 ce q9 M9 H locs hI hX g1 g2 g3 => ?_) (fun r9 M9 H locs hR hI => ?_)
  · obtain ⟨hc9, hS9, rfl⟩ := hX
    rcases hs_xn2 hc9 with ⟨hc8, rfl⟩ | ⟨hc8, rfl⟩
    · refine vx_catch (name := "java/lang/IndexOutOfBoundsException") hown [] ⟨0, 10, 13, 19⟩ [⟨0, 10, 17, 25⟩] (by rw [htab]; rfl) (fun _ h => absurd h List.not_mem_nil) (by decide) (by decide) (hts _ (hw_win (w := .classLink RL 19 "java/lang/IndexOutOfBoundsException") (by decide +kernel) (by decide +kernel))) (va_Nw.use rfl (hk.2.2.2.2.2.2.1 ("java/lang/IndexOutOfBoundsException", "java/lang/IndexOutOfBoundsException") (by decide +kernel))) g1 g2 g3 ?_
      refine lv_astore (lv' := [(4, .ref q9), (0, .ref (ad 0 0)), (1, .int ka), (2, .int kw), (3, .ref oa)]) hx hb dL_ofMachine_13 hl (by decide) rfl (fun ls hl => ?_)
      refine lv_iconst (v := nI 1) hx hb dL_ofMachine_15 (by decide) ?_
      exact hret hI (hl_x hP ho hc8 (by decide) hS9) (Nat.le_of_ble_eq_true rfl) (Nat.le_of_ble_eq_true rfl) dL_ofMachine_16
    · refine vx_catch (name := "java/lang/IllegalArgumentException") hown [⟨0, 10, 13, 19⟩] ⟨0, 10, 17, 25⟩ [] (by rw [htab]; rfl) (List.forall_mem_cons.mpr ⟨Or.inr ⟨by decide, "java/lang/IndexOutOfBoundsException", hts _ (hw_win (w := .classLink RL 19 "java/lang/IndexOutOfBoundsException") (by decide +kernel) (by decide +kernel)), hk.2.2.2.2.2.2.2.1 ("java/lang/IllegalArgumentException", "java/lang/IndexOutOfBoundsException") (by decide +kernel)⟩, fun _ h => absurd h List.not_mem_nil⟩) (by decide) (by decide) (hts _ (hw_win (w := .classLink RL 25 "java/lang/IllegalArgumentException") (by decide +kernel) (by decide +kernel))) (va_Nw.use rfl (hk.2.2.2.2.2.2.1 ("java/lang/IllegalArgumentException", "java/lang/IllegalArgumentException") (by decide +kernel))) g1 g2 g3 ?_
      refine lv_astore (lv' := [(4, .ref q9), (0, .ref (ad 0 0)), (1, .int ka), (2, .int kw), (3, .ref oa)]) hx hb dL_ofMachine_17 hl (by decide) rfl (fun ls hl => ?_)
      refine lv_iconst (v := nI 2) hx hb dL_ofMachine_19 (by decide) ?_
      exact hret hI (hl_x hP ho hc8 (by decide) hS9) (Nat.le_of_ble_eq_true rfl) (Nat.le_of_ble_eq_true rfl) dL_ofMachine_20
  · replace hR := hq_N.R (Z := Z) (b1 := b1) (ad := ad) hR hP
    have ho9 : M9 oa = hw_al Z 1 f := (hR.2.2.2 oa hbo).trans ho
    refine lv_i2l (v := r9.toInt64) hx hb dL_ofMachine_8 rfl ?_
    refine hw_last hx hb hk hI ho9 (j := 0) rfl (by omega) (by decide) dL_ofMachine_9 (fun H locs hI => ?_)
    refine lv_goto (tgt := 21) hx hb dL_ofMachine_10 (by decide) ?_
    refine lv_iconst (v := nI 0) hx hb dL_ofMachine_21 (by decide) ?_
    exact hret hI (hl_y hR hbo rfl) (Nat.le_of_ble_eq_true rfl) (Nat.le_of_ble_eq_true rfl) dL_ofMachine_22

set_option maxHeartbeats 4000000 in
set_option maxRecDepth 100000 in
theorem m_L_warm (l : Launch) (hst : l.stackTraces = false) (Z : hw_Z) (M : hw_M) (ad : hp_ad) (S : hs_S) (T : hp_T) (b1 : Nat → Prop) (oa : Nat) (f : Nat → UInt64) (ka : Int32) (kb : Int32) (kc : Int32) (hP : hp_ok Z b1 M ad S T) (hB : hs_b S) (hbo : b1 oa) (ho : M oa = hw_ad Z 1 f) : Met l yL_warm (hw_mH yL_warm cL_warm 6 (some .int) [(0, 11, 14, 19)]) ({ frames := 10, cells := 6, slots := 36, locals := 214 } : Room) (va_Pc [.ref (ad 0 0), .int ka, .int kb, .int kc, .ref oa] (hw_P Z M)) (hw_Qi Z (hl_D Z b1 M ad oa (st_warm S ka kb kc))) 6 36 (hw_A Z) := by
  have e0 : M (ad 0 0) = hw_ob 6 [.ref (ad 0 1), .ref (ad 0 2), .ref (ad 0 3), .int (nI (hs_np S)), .int (nI (hs_nw S)), .int (hs_G S 0), .int (hs_G S 1), .ref (ad 0 4), .ref (ad 0 8)] := hP.m 0 0 (by decide)
  refine hw_ofH (by decide +kernel) rfl (Nat.le_of_ble_eq_true rfl) ?_
  intro p e s m below meth c ls Q hx hb hml hown hts hk htab hI hl hret
  refine lv_aload hx hb dL_warm_0 (lv_at hl 4 rfl) ?_
  refine lv_iconst (v := nI 0) hx hb dL_warm_2 (by decide) ?_
  refine lv_aload_n hx hb dL_warm_3 rfl (lv_at hl 0 rfl) ?_
  refine lv_iload_n hx hb dL_warm_4 rfl (lv_at hl 1 rfl) ?_
  refine lv_iload_n hx hb dL_warm_5 rfl (lv_at hl 2 rfl) ?_
  refine lv_iload_n hx hb dL_warm_6 rfl (lv_at hl 3 rfl) ?_
  refine hw_yd hI (hw_xV hx hb hml hown hts hk hI (m_X5_warm l hst Z M ad S T b1 ka kb kc hP hB) cv_L_82 e0 rfl rfl ⟨rfl, rfl⟩ ⟨(Nat.le_of_ble_eq_true rfl), (Nat.le_of_ble_eq_true rfl)⟩ rfl hl.1 rfl (Nat.le_of_ble_eq_true rfl) ⟨(Nat.le_of_ble_eq_true rfl), (Nat.le_of_ble_eq_true rfl)⟩ dL_warm_7) (fun E9 ce q9 M9 H locs hI hX g1 g2 g3 => ?_) (fun r9 M9 H locs hR hI => ?_)
  · obtain ⟨hc9, hS9, rfl⟩ := hX
    obtain ⟨hc8, rfl⟩ := hs_xn1 hc9
    refine vx_catch (name := "java/lang/IndexOutOfBoundsException") hown [] ⟨0, 11, 14, 19⟩ [] (by rw [htab]; rfl) (fun _ h => absurd h List.not_mem_nil) (by decide) (by decide) (hts _ (hw_win (w := .classLink RL 19 "java/lang/IndexOutOfBoundsException") (by decide +kernel) (by decide +kernel))) (va_Nw.use rfl (hk.2.2.2.2.2.2.1 ("java/lang/IndexOutOfBoundsException", "java/lang/IndexOutOfBoundsException") (by decide +kernel))) g1 g2 g3 ?_
    refine lv_astore (lv' := [(5, .ref q9), (0, .ref (ad 0 0)), (1, .int ka), (2, .int kb), (3, .int kc), (4, .ref oa)]) hx hb dL_warm_14 hl (by decide) rfl (fun ls hl => ?_)
    refine lv_iconst (v := nI 1) hx hb dL_warm_16 (by decide) ?_
    exact hret hI (hl_xd hP ho hc8 (by decide) hS9) (Nat.le_of_ble_eq_true rfl) (Nat.le_of_ble_eq_true rfl) dL_warm_17
  · replace hR := hq_N.R (Z := Z) (b1 := b1) (ad := ad) hR hP
    have ho9 : M9 oa = hw_ad Z 1 f := (hR.2.2.2 oa hbo).trans ho
    refine hw_dast hx hb hk hI ho9 (j := 0) rfl (by omega) (by decide) dL_warm_10 (fun H locs hI => ?_)
    refine lv_goto (tgt := 18) hx hb dL_warm_11 (by decide) ?_
    refine lv_iconst (v := nI 0) hx hb dL_warm_18 (by decide) ?_
    exact hret hI (hl_yd hR hbo) (Nat.le_of_ble_eq_true rfl) (Nat.le_of_ble_eq_true rfl) dL_warm_19

set_option maxHeartbeats 4000000 in
set_option maxRecDepth 100000 in
theorem m_L_measure (l : Launch) (hst : l.stackTraces = false) (Z : hw_Z) (M : hw_M) (ad : hp_ad) (S : hs_S) (T : hp_T) (b1 : Nat → Prop) (oa : Nat) (f : Nat → UInt64) (ka : Int32) (kw : Int32) (hP : hp_ok Z b1 M ad S T) (hB : hs_b S) (hbo : b1 oa) (ho : M oa = hw_ad Z 1 f) : Met l yL_measure (hw_mH yL_measure cL_measure 5 (some .int) [(0, 9, 12, 19), (0, 9, 16, 25)]) ({ frames := 10, cells := 6, slots := 36, locals := 213 } : Room) (va_Pc [.ref (ad 0 0), .int ka, .int kw, .ref oa] (hw_P Z M)) (hw_Qi Z (hl_D Z b1 M ad oa (st_measure S ka kw))) 6 36 (hw_A Z) := by
  have e0 : M (ad 0 0) = hw_ob 6 [.ref (ad 0 1), .ref (ad 0 2), .ref (ad 0 3), .int (nI (hs_np S)), .int (nI (hs_nw S)), .int (hs_G S 0), .int (hs_G S 1), .ref (ad 0 4), .ref (ad 0 8)] := hP.m 0 0 (by decide)
  refine hw_ofH (by decide +kernel) rfl (Nat.le_of_ble_eq_true rfl) ?_
  intro p e s m below meth c ls Q hx hb hml hown hts hk htab hI hl hret
  refine lv_aload_n hx hb dL_measure_0 rfl (lv_at hl 3 rfl) ?_
  refine lv_iconst (v := nI 0) hx hb dL_measure_1 (by decide) ?_
  refine lv_aload_n hx hb dL_measure_2 rfl (lv_at hl 0 rfl) ?_
  refine lv_iload_n hx hb dL_measure_3 rfl (lv_at hl 1 rfl) ?_
  refine lv_iload_n hx hb dL_measure_4 rfl (lv_at hl 2 rfl) ?_
  refine hw_yd hI (hw_xV hx hb hml hown hts hk hI (m_X5_measure l hst Z M ad S T b1 ka kw hP hB) cv_L_86 e0 rfl rfl ⟨rfl, rfl⟩ ⟨(Nat.le_of_ble_eq_true rfl), (Nat.le_of_ble_eq_true rfl)⟩ rfl hl.1 rfl (Nat.le_of_ble_eq_true rfl) ⟨(Nat.le_of_ble_eq_true rfl), (Nat.le_of_ble_eq_true rfl)⟩ dL_measure_5) (fun E9 ce q9 M9 H locs hI hX g1 g2 g3 => ?_) (fun r9 M9 H locs hR hI => ?_)
  · obtain ⟨hc9, hS9, rfl⟩ := hX
    rcases hs_xn2 hc9 with ⟨hc8, rfl⟩ | ⟨hc8, rfl⟩
    · refine vx_catch (name := "java/lang/IndexOutOfBoundsException") hown [] ⟨0, 9, 12, 19⟩ [⟨0, 9, 16, 25⟩] (by rw [htab]; rfl) (fun _ h => absurd h List.not_mem_nil) (by decide) (by decide) (hts _ (hw_win (w := .classLink RL 19 "java/lang/IndexOutOfBoundsException") (by decide +kernel) (by decide +kernel))) (va_Nw.use rfl (hk.2.2.2.2.2.2.1 ("java/lang/IndexOutOfBoundsException", "java/lang/IndexOutOfBoundsException") (by decide +kernel))) g1 g2 g3 ?_
      refine lv_astore (lv' := [(4, .ref q9), (0, .ref (ad 0 0)), (1, .int ka), (2, .int kw), (3, .ref oa)]) hx hb dL_measure_12 hl (by decide) rfl (fun ls hl => ?_)
      refine lv_iconst (v := nI 1) hx hb dL_measure_14 (by decide) ?_
      exact hret hI (hl_xd hP ho hc8 (by decide) hS9) (Nat.le_of_ble_eq_true rfl) (Nat.le_of_ble_eq_true rfl) dL_measure_15
    · refine vx_catch (name := "java/lang/IllegalArgumentException") hown [⟨0, 9, 12, 19⟩] ⟨0, 9, 16, 25⟩ [] (by rw [htab]; rfl) (List.forall_mem_cons.mpr ⟨Or.inr ⟨by decide, "java/lang/IndexOutOfBoundsException", hts _ (hw_win (w := .classLink RL 19 "java/lang/IndexOutOfBoundsException") (by decide +kernel) (by decide +kernel)), hk.2.2.2.2.2.2.2.1 ("java/lang/IllegalArgumentException", "java/lang/IndexOutOfBoundsException") (by decide +kernel)⟩, fun _ h => absurd h List.not_mem_nil⟩) (by decide) (by decide) (hts _ (hw_win (w := .classLink RL 25 "java/lang/IllegalArgumentException") (by decide +kernel) (by decide +kernel))) (va_Nw.use rfl (hk.2.2.2.2.2.2.1 ("java/lang/IllegalArgumentException", "java/lang/IllegalArgumentException") (by decide +kernel))) g1 g2 g3 ?_
      refine lv_astore (lv' := [(4, .ref q9), (0, .ref (ad 0 0)), (1, .int ka), (2, .int kw), (3, .ref oa)]) hx hb dL_measure_16 hl (by decide) rfl (fun ls hl => ?_)
      refine lv_iconst (v := nI 2) hx hb dL_measure_18 (by decide) ?_
      exact hret hI (hl_xd hP ho hc8 (by decide) hS9) (Nat.le_of_ble_eq_true rfl) (Nat.le_of_ble_eq_true rfl) dL_measure_19
  · replace hR := hq_N.R (Z := Z) (b1 := b1) (ad := ad) hR hP
    have ho9 : M9 oa = hw_ad Z 1 f := (hR.2.2.2 oa hbo).trans ho
    refine hw_dast hx hb hk hI ho9 (j := 0) rfl (by omega) (by decide) dL_measure_8 (fun H locs hI => ?_)
    refine lv_goto (tgt := 20) hx hb dL_measure_9 (by decide) ?_
    refine lv_iconst (v := nI 0) hx hb dL_measure_20 (by decide) ?_
    exact hret hI (hl_yd hR hbo) (Nat.le_of_ble_eq_true rfl) (Nat.le_of_ble_eq_true rfl) dL_measure_21

set_option maxHeartbeats 4000000 in
set_option maxRecDepth 100000 in
theorem m_L_recall (l : Launch) (hst : l.stackTraces = false) (Z : hw_Z) (M : hw_M) (ad : hp_ad) (S : hs_S) (T : hp_T) (b1 : Nat → Prop) (oa : Nat) (f : Nat → Int64) (ka : Int32) (hP : hp_ok Z b1 M ad S T) (hB : hs_b S) (hbo : b1 oa) (ho : M oa = hw_al Z 1 f) : Met l yL_recall (hw_mH yL_recall cL_recall 4 (some .int) [(0, 9, 12, 19)]) ({ frames := 10, cells := 6, slots := 36, locals := 214 } : Room) (va_Pc [.ref (ad 0 0), .int ka, .ref oa] (hw_P Z M)) (hw_Qi Z (hl_L Z b1 M ad oa (st_recall S ka) (fun x => x.toInt64))) 6 36 (hw_A Z) := by
  have e0 : M (ad 0 0) = hw_ob 6 [.ref (ad 0 1), .ref (ad 0 2), .ref (ad 0 3), .int (nI (hs_np S)), .int (nI (hs_nw S)), .int (hs_G S 0), .int (hs_G S 1), .ref (ad 0 4), .ref (ad 0 8)] := hP.m 0 0 (by decide)
  refine hw_ofH (by decide +kernel) rfl (Nat.le_of_ble_eq_true rfl) ?_
  intro p e s m below meth c ls Q hx hb hml hown hts hk htab hI hl hret
  refine lv_aload_n hx hb dL_recall_0 rfl (lv_at hl 2 rfl) ?_
  refine lv_iconst (v := nI 0) hx hb dL_recall_1 (by decide) ?_
  refine lv_aload_n hx hb dL_recall_2 rfl (lv_at hl 0 rfl) ?_
  refine lv_iload_n hx hb dL_recall_3 rfl (lv_at hl 1 rfl) ?_
  refine hw_yi hI (hw_xV hx hb hml hown hts hk hI (m_X5_recall l hst Z M ad S T b1 ka hP hB) cv_L_90 e0 rfl rfl ⟨rfl, rfl⟩ ⟨(Nat.le_of_ble_eq_true rfl), (Nat.le_of_ble_eq_true rfl)⟩ rfl hl.1 rfl (Nat.le_of_ble_eq_true rfl) ⟨(Nat.le_of_ble_eq_true rfl), (Nat.le_of_ble_eq_true rfl)⟩ dL_recall_4) (fun E9 ce q9 M9 H locs hI hX g1 g2 g3 => ?_) (fun r9 M9 H locs hR hI => ?_)
  · obtain ⟨hc9, hS9, rfl⟩ := hX
    obtain ⟨hc8, rfl⟩ := hs_xn1 hc9
    refine vx_catch (name := "java/lang/IndexOutOfBoundsException") hown [] ⟨0, 9, 12, 19⟩ [] (by rw [htab]; rfl) (fun _ h => absurd h List.not_mem_nil) (by decide) (by decide) (hts _ (hw_win (w := .classLink RL 19 "java/lang/IndexOutOfBoundsException") (by decide +kernel) (by decide +kernel))) (va_Nw.use rfl (hk.2.2.2.2.2.2.1 ("java/lang/IndexOutOfBoundsException", "java/lang/IndexOutOfBoundsException") (by decide +kernel))) g1 g2 g3 ?_
    refine lv_astore_n (lv' := [(3, .ref q9), (0, .ref (ad 0 0)), (1, .int ka), (2, .ref oa)]) hx hb dL_recall_12 rfl hl (by decide) rfl (fun ls hl => ?_)
    refine lv_iconst (v := nI 1) hx hb dL_recall_13 (by decide) ?_
    exact hret hI (hl_x hP ho hc8 (by decide) hS9) (Nat.le_of_ble_eq_true rfl) (Nat.le_of_ble_eq_true rfl) dL_recall_14
  · replace hR := hq_N.R (Z := Z) (b1 := b1) (ad := ad) hR hP
    have ho9 : M9 oa = hw_al Z 1 f := (hR.2.2.2 oa hbo).trans ho
    refine lv_i2l (v := r9.toInt64) hx hb dL_recall_7 rfl ?_
    refine hw_last hx hb hk hI ho9 (j := 0) rfl (by omega) (by decide) dL_recall_8 (fun H locs hI => ?_)
    refine lv_goto (tgt := 15) hx hb dL_recall_9 (by decide) ?_
    refine lv_iconst (v := nI 0) hx hb dL_recall_15 (by decide) ?_
    exact hret hI (hl_y hR hbo rfl) (Nat.le_of_ble_eq_true rfl) (Nat.le_of_ble_eq_true rfl) dL_recall_16

set_option maxHeartbeats 4000000 in
set_option maxRecDepth 100000 in
theorem m_L_many (l : Launch) (hst : l.stackTraces = false) (Z : hw_Z) (M : hw_M) (ad : hp_ad) (S : hs_S) (T : hp_T) (b1 : Nat → Prop) (oa : Nat) (f : Nat → Int64) (kw : Int32) (hP : hp_ok Z b1 M ad S T) (hB : hs_b S) (hbo : b1 oa) (ho : M oa = hw_al Z 1 f) : Met l yL_many (hw_mH yL_many cL_many 4 (some .int) [(0, 9, 12, 25)]) ({ frames := 9, cells := 6, slots := 36, locals := 191 } : Room) (va_Pc [.ref (ad 0 0), .int kw, .ref oa] (hw_P Z M)) (hw_Qi Z (hl_L Z b1 M ad oa (st_many S kw) (fun x => x.toInt64))) 6 36 (hw_A Z) := by
  have e0 : M (ad 0 0) = hw_ob 6 [.ref (ad 0 1), .ref (ad 0 2), .ref (ad 0 3), .int (nI (hs_np S)), .int (nI (hs_nw S)), .int (hs_G S 0), .int (hs_G S 1), .ref (ad 0 4), .ref (ad 0 8)] := hP.m 0 0 (by decide)
  refine hw_ofH (by decide +kernel) rfl (Nat.le_of_ble_eq_true rfl) ?_
  intro p e s m below meth c ls Q hx hb hml hown hts hk htab hI hl hret
  refine lv_aload_n hx hb dL_many_0 rfl (lv_at hl 2 rfl) ?_
  refine lv_iconst (v := nI 0) hx hb dL_many_1 (by decide) ?_
  refine lv_aload_n hx hb dL_many_2 rfl (lv_at hl 0 rfl) ?_
  refine lv_iload_n hx hb dL_many_3 rfl (lv_at hl 1 rfl) ?_
  refine hw_yi hI (hw_xV hx hb hml hown hts hk hI (m_X5_many l hst Z M ad S T b1 kw hP hB) cv_L_93 e0 rfl rfl ⟨rfl, rfl⟩ ⟨(Nat.le_of_ble_eq_true rfl), (Nat.le_of_ble_eq_true rfl)⟩ rfl hl.1 rfl (Nat.le_of_ble_eq_true rfl) ⟨(Nat.le_of_ble_eq_true rfl), (Nat.le_of_ble_eq_true rfl)⟩ dL_many_4) (fun E9 ce q9 M9 H locs hI hX g1 g2 g3 => ?_) (fun r9 M9 H locs hR hI => ?_)
  · obtain ⟨hc9, hS9, rfl⟩ := hX
    obtain ⟨hc8, rfl⟩ := hs_xn1 hc9
    refine vx_catch (name := "java/lang/IllegalArgumentException") hown [] ⟨0, 9, 12, 25⟩ [] (by rw [htab]; rfl) (fun _ h => absurd h List.not_mem_nil) (by decide) (by decide) (hts _ (hw_win (w := .classLink RL 25 "java/lang/IllegalArgumentException") (by decide +kernel) (by decide +kernel))) (va_Nw.use rfl (hk.2.2.2.2.2.2.1 ("java/lang/IllegalArgumentException", "java/lang/IllegalArgumentException") (by decide +kernel))) g1 g2 g3 ?_
    refine lv_astore_n (lv' := [(3, .ref q9), (0, .ref (ad 0 0)), (1, .int kw), (2, .ref oa)]) hx hb dL_many_12 rfl hl (by decide) rfl (fun ls hl => ?_)
    refine lv_iconst (v := nI 1) hx hb dL_many_13 (by decide) ?_
    exact hret hI (hl_x hP ho hc8 (by decide) hS9) (Nat.le_of_ble_eq_true rfl) (Nat.le_of_ble_eq_true rfl) dL_many_14
  · replace hR := hq_N.R (Z := Z) (b1 := b1) (ad := ad) hR hP
    have ho9 : M9 oa = hw_al Z 1 f := (hR.2.2.2 oa hbo).trans ho
    refine lv_i2l (v := r9.toInt64) hx hb dL_many_7 rfl ?_
    refine hw_last hx hb hk hI ho9 (j := 0) rfl (by omega) (by decide) dL_many_8 (fun H locs hI => ?_)
    refine lv_goto (tgt := 15) hx hb dL_many_9 (by decide) ?_
    refine lv_iconst (v := nI 0) hx hb dL_many_15 (by decide) ?_
    exact hret hI (hl_y hR hbo rfl) (Nat.le_of_ble_eq_true rfl) (Nat.le_of_ble_eq_true rfl) dL_many_16

set_option maxHeartbeats 4000000 in
set_option maxRecDepth 100000 in
theorem m_L_wouldHold (l : Launch) (hst : l.stackTraces = false) (Z : hw_Z) (M : hw_M) (ad : hp_ad) (S : hs_S) (T : hp_T) (b1 : Nat → Prop) (oa : Nat) (f : Nat → Int64) (ka : Int32) (kw : Int32) (hP : hp_ok Z b1 M ad S T) (hB : hs_b S) (hbo : b1 oa) (ho : M oa = hw_al Z 1 f) : Met l yL_wouldHold (hw_mH yL_wouldHold cL_wouldHold 5 (some .int) [(0, 10, 13, 19), (0, 10, 17, 25)]) ({ frames := 10, cells := 6, slots := 36, locals := 213 } : Room) (va_Pc [.ref (ad 0 0), .int ka, .int kw, .ref oa] (hw_P Z M)) (hw_Qi Z (hl_L Z b1 M ad oa (st_wouldHold S ka kw) (fun x => x.toInt64))) 6 36 (hw_A Z) := by
  have e0 : M (ad 0 0) = hw_ob 6 [.ref (ad 0 1), .ref (ad 0 2), .ref (ad 0 3), .int (nI (hs_np S)), .int (nI (hs_nw S)), .int (hs_G S 0), .int (hs_G S 1), .ref (ad 0 4), .ref (ad 0 8)] := hP.m 0 0 (by decide)
  refine hw_ofH (by decide +kernel) rfl (Nat.le_of_ble_eq_true rfl) ?_
  intro p e s m below meth c ls Q hx hb hml hown hts hk htab hI hl hret
  refine lv_aload_n hx hb dL_wouldHold_0 rfl (lv_at hl 3 rfl) ?_
  refine lv_iconst (v := nI 0) hx hb dL_wouldHold_1 (by decide) ?_
  refine lv_aload_n hx hb dL_wouldHold_2 rfl (lv_at hl 0 rfl) ?_
  refine lv_iload_n hx hb dL_wouldHold_3 rfl (lv_at hl 1 rfl) ?_
  refine lv_iload_n hx hb dL_wouldHold_4 rfl (lv_at hl 2 rfl) ?_
  refine hw_yi hI (hw_xV hx hb hml hown hts hk hI (m_X5_wouldHold l hst Z M ad S T b1 ka kw hP hB) cv_L_96 e0 rfl rfl ⟨rfl, rfl⟩ ⟨(Nat.le_of_ble_eq_true rfl), (Nat.le_of_ble_eq_true rfl)⟩ rfl hl.1 rfl (Nat.le_of_ble_eq_true rfl) ⟨(Nat.le_of_ble_eq_true rfl), (Nat.le_of_ble_eq_true rfl)⟩ dL_wouldHold_5) (fun E9 ce q9 M9 H locs hI hX g1 g2 g3 => ?_) (fun r9 M9 H locs hR hI => ?_)
  · obtain ⟨hc9, hS9, rfl⟩ := hX
    rcases hs_xn2 hc9 with ⟨hc8, rfl⟩ | ⟨hc8, rfl⟩
    · refine vx_catch (name := "java/lang/IndexOutOfBoundsException") hown [] ⟨0, 10, 13, 19⟩ [⟨0, 10, 17, 25⟩] (by rw [htab]; rfl) (fun _ h => absurd h List.not_mem_nil) (by decide) (by decide) (hts _ (hw_win (w := .classLink RL 19 "java/lang/IndexOutOfBoundsException") (by decide +kernel) (by decide +kernel))) (va_Nw.use rfl (hk.2.2.2.2.2.2.1 ("java/lang/IndexOutOfBoundsException", "java/lang/IndexOutOfBoundsException") (by decide +kernel))) g1 g2 g3 ?_
      refine lv_astore (lv' := [(4, .ref q9), (0, .ref (ad 0 0)), (1, .int ka), (2, .int kw), (3, .ref oa)]) hx hb dL_wouldHold_13 hl (by decide) rfl (fun ls hl => ?_)
      refine lv_iconst (v := nI 1) hx hb dL_wouldHold_15 (by decide) ?_
      exact hret hI (hl_x hP ho hc8 (by decide) hS9) (Nat.le_of_ble_eq_true rfl) (Nat.le_of_ble_eq_true rfl) dL_wouldHold_16
    · refine vx_catch (name := "java/lang/IllegalArgumentException") hown [⟨0, 10, 13, 19⟩] ⟨0, 10, 17, 25⟩ [] (by rw [htab]; rfl) (List.forall_mem_cons.mpr ⟨Or.inr ⟨by decide, "java/lang/IndexOutOfBoundsException", hts _ (hw_win (w := .classLink RL 19 "java/lang/IndexOutOfBoundsException") (by decide +kernel) (by decide +kernel)), hk.2.2.2.2.2.2.2.1 ("java/lang/IllegalArgumentException", "java/lang/IndexOutOfBoundsException") (by decide +kernel)⟩, fun _ h => absurd h List.not_mem_nil⟩) (by decide) (by decide) (hts _ (hw_win (w := .classLink RL 25 "java/lang/IllegalArgumentException") (by decide +kernel) (by decide +kernel))) (va_Nw.use rfl (hk.2.2.2.2.2.2.1 ("java/lang/IllegalArgumentException", "java/lang/IllegalArgumentException") (by decide +kernel))) g1 g2 g3 ?_
      refine lv_astore (lv' := [(4, .ref q9), (0, .ref (ad 0 0)), (1, .int ka), (2, .int kw), (3, .ref oa)]) hx hb dL_wouldHold_17 hl (by decide) rfl (fun ls hl => ?_)
      refine lv_iconst (v := nI 2) hx hb dL_wouldHold_19 (by decide) ?_
      exact hret hI (hl_x hP ho hc8 (by decide) hS9) (Nat.le_of_ble_eq_true rfl) (Nat.le_of_ble_eq_true rfl) dL_wouldHold_20
  · have ho9 : M9 oa = hw_al Z 1 f := (hR.2.2.2 oa hbo).trans ho
    refine lv_i2l (v := r9.toInt64) hx hb dL_wouldHold_8 rfl ?_
    refine hw_last hx hb hk hI ho9 (j := 0) rfl (by omega) (by decide) dL_wouldHold_9 (fun H locs hI => ?_)
    refine lv_goto (tgt := 21) hx hb dL_wouldHold_10 (by decide) ?_
    refine lv_iconst (v := nI 0) hx hb dL_wouldHold_21 (by decide) ?_
    exact hret hI (hl_y hR hbo rfl) (Nat.le_of_ble_eq_true rfl) (Nat.le_of_ble_eq_true rfl) dL_wouldHold_22

set_option maxHeartbeats 4000000 in
set_option maxRecDepth 100000 in
theorem m_L_bestWay (l : Launch) (hst : l.stackTraces = false) (Z : hw_Z) (M : hw_M) (ad : hp_ad) (S : hs_S) (T : hp_T) (b1 : Nat → Prop) (oa : Nat) (f : Nat → Int64) (ka : Int32) (hP : hp_ok Z b1 M ad S T) (hB : hs_b S) (hbo : b1 oa) (ho : M oa = hw_al Z 1 f) : Met l yL_bestWay (hw_mH yL_bestWay cL_bestWay 4 (some .int) [(0, 9, 12, 19)]) ({ frames := 10, cells := 6, slots := 36, locals := 218 } : Room) (va_Pc [.ref (ad 0 0), .int ka, .ref oa] (hw_P Z M)) (hw_Qi Z (hl_L Z b1 M ad oa (st_bestWay S ka) (fun x => x.toInt64))) 6 36 (hw_A Z) := by
  have e0 : M (ad 0 0) = hw_ob 6 [.ref (ad 0 1), .ref (ad 0 2), .ref (ad 0 3), .int (nI (hs_np S)), .int (nI (hs_nw S)), .int (hs_G S 0), .int (hs_G S 1), .ref (ad 0 4), .ref (ad 0 8)] := hP.m 0 0 (by decide)
  refine hw_ofH (by decide +kernel) rfl (Nat.le_of_ble_eq_true rfl) ?_
  intro p e s m below meth c ls Q hx hb hml hown hts hk htab hI hl hret
  refine lv_aload_n hx hb dL_bestWay_0 rfl (lv_at hl 2 rfl) ?_
  refine lv_iconst (v := nI 0) hx hb dL_bestWay_1 (by decide) ?_
  refine lv_aload_n hx hb dL_bestWay_2 rfl (lv_at hl 0 rfl) ?_
  refine lv_iload_n hx hb dL_bestWay_3 rfl (lv_at hl 1 rfl) ?_
  refine hw_yi hI (hw_xV hx hb hml hown hts hk hI (m_X5_bestWay l hst Z M ad S T b1 ka hP hB) cv_L_99 e0 rfl rfl ⟨rfl, rfl⟩ ⟨(Nat.le_of_ble_eq_true rfl), (Nat.le_of_ble_eq_true rfl)⟩ rfl hl.1 rfl (Nat.le_of_ble_eq_true rfl) ⟨(Nat.le_of_ble_eq_true rfl), (Nat.le_of_ble_eq_true rfl)⟩ dL_bestWay_4) (fun E9 ce q9 M9 H locs hI hX g1 g2 g3 => ?_) (fun r9 M9 H locs hR hI => ?_)
  · obtain ⟨hc9, hS9, rfl⟩ := hX
    obtain ⟨hc8, rfl⟩ := hs_xn1 hc9
    refine vx_catch (name := "java/lang/IndexOutOfBoundsException") hown [] ⟨0, 9, 12, 19⟩ [] (by rw [htab]; rfl) (fun _ h => absurd h List.not_mem_nil) (by decide) (by decide) (hts _ (hw_win (w := .classLink RL 19 "java/lang/IndexOutOfBoundsException") (by decide +kernel) (by decide +kernel))) (va_Nw.use rfl (hk.2.2.2.2.2.2.1 ("java/lang/IndexOutOfBoundsException", "java/lang/IndexOutOfBoundsException") (by decide +kernel))) g1 g2 g3 ?_
    refine lv_astore_n (lv' := [(3, .ref q9), (0, .ref (ad 0 0)), (1, .int ka), (2, .ref oa)]) hx hb dL_bestWay_12 rfl hl (by decide) rfl (fun ls hl => ?_)
    refine lv_iconst (v := nI 1) hx hb dL_bestWay_13 (by decide) ?_
    exact hret hI (hl_x hP ho hc8 (by decide) hS9) (Nat.le_of_ble_eq_true rfl) (Nat.le_of_ble_eq_true rfl) dL_bestWay_14
  · have ho9 : M9 oa = hw_al Z 1 f := (hR.2.2.2 oa hbo).trans ho
    refine lv_i2l (v := r9.toInt64) hx hb dL_bestWay_7 rfl ?_
    refine hw_last hx hb hk hI ho9 (j := 0) rfl (by omega) (by decide) dL_bestWay_8 (fun H locs hI => ?_)
    refine lv_goto (tgt := 15) hx hb dL_bestWay_9 (by decide) ?_
    refine lv_iconst (v := nI 0) hx hb dL_bestWay_15 (by decide) ?_
    exact hret hI (hl_y hR hbo rfl) (Nat.le_of_ble_eq_true rfl) (Nat.le_of_ble_eq_true rfl) dL_bestWay_16

set_option maxHeartbeats 4000000 in
set_option maxRecDepth 100000 in
theorem m_L_bestSpeed (l : Launch) (hst : l.stackTraces = false) (Z : hw_Z) (M : hw_M) (ad : hp_ad) (S : hs_S) (T : hp_T) (b1 : Nat → Prop) (oa : Nat) (f : Nat → Int64) (ka : Int32) (kw : Int32) (hP : hp_ok Z b1 M ad S T) (hB : hs_b S) (hbo : b1 oa) (ho : M oa = hw_al Z 1 f) : Met l yL_bestSpeed (hw_mH yL_bestSpeed cL_bestSpeed 5 (some .int) [(0, 10, 13, 19), (0, 10, 17, 25)]) ({ frames := 10, cells := 6, slots := 36, locals := 217 } : Room) (va_Pc [.ref (ad 0 0), .int ka, .int kw, .ref oa] (hw_P Z M)) (hw_Qi Z (hl_L Z b1 M ad oa (st_bestSpeed S ka kw) (fun x => x.toInt64))) 6 36 (hw_A Z) := by
  have e0 : M (ad 0 0) = hw_ob 6 [.ref (ad 0 1), .ref (ad 0 2), .ref (ad 0 3), .int (nI (hs_np S)), .int (nI (hs_nw S)), .int (hs_G S 0), .int (hs_G S 1), .ref (ad 0 4), .ref (ad 0 8)] := hP.m 0 0 (by decide)
  refine hw_ofH (by decide +kernel) rfl (Nat.le_of_ble_eq_true rfl) ?_
  intro p e s m below meth c ls Q hx hb hml hown hts hk htab hI hl hret
  refine lv_aload_n hx hb dL_bestSpeed_0 rfl (lv_at hl 3 rfl) ?_
  refine lv_iconst (v := nI 0) hx hb dL_bestSpeed_1 (by decide) ?_
  refine lv_aload_n hx hb dL_bestSpeed_2 rfl (lv_at hl 0 rfl) ?_
  refine lv_iload_n hx hb dL_bestSpeed_3 rfl (lv_at hl 1 rfl) ?_
  refine lv_iload_n hx hb dL_bestSpeed_4 rfl (lv_at hl 2 rfl) ?_
  refine hw_yi hI (hw_xV hx hb hml hown hts hk hI (m_X5_bestSpeed l hst Z M ad S T b1 ka kw hP hB) cv_L_102 e0 rfl rfl ⟨rfl, rfl⟩ ⟨(Nat.le_of_ble_eq_true rfl), (Nat.le_of_ble_eq_true rfl)⟩ rfl hl.1 rfl (Nat.le_of_ble_eq_true rfl) ⟨(Nat.le_of_ble_eq_true rfl), (Nat.le_of_ble_eq_true rfl)⟩ dL_bestSpeed_5) (fun E9 ce q9 M9 H locs hI hX g1 g2 g3 => ?_) (fun r9 M9 H locs hR hI => ?_)
  · obtain ⟨hc9, hS9, rfl⟩ := hX
    rcases hs_xn2 hc9 with ⟨hc8, rfl⟩ | ⟨hc8, rfl⟩
    · refine vx_catch (name := "java/lang/IndexOutOfBoundsException") hown [] ⟨0, 10, 13, 19⟩ [⟨0, 10, 17, 25⟩] (by rw [htab]; rfl) (fun _ h => absurd h List.not_mem_nil) (by decide) (by decide) (hts _ (hw_win (w := .classLink RL 19 "java/lang/IndexOutOfBoundsException") (by decide +kernel) (by decide +kernel))) (va_Nw.use rfl (hk.2.2.2.2.2.2.1 ("java/lang/IndexOutOfBoundsException", "java/lang/IndexOutOfBoundsException") (by decide +kernel))) g1 g2 g3 ?_
      refine lv_astore (lv' := [(4, .ref q9), (0, .ref (ad 0 0)), (1, .int ka), (2, .int kw), (3, .ref oa)]) hx hb dL_bestSpeed_13 hl (by decide) rfl (fun ls hl => ?_)
      refine lv_iconst (v := nI 1) hx hb dL_bestSpeed_15 (by decide) ?_
      exact hret hI (hl_x hP ho hc8 (by decide) hS9) (Nat.le_of_ble_eq_true rfl) (Nat.le_of_ble_eq_true rfl) dL_bestSpeed_16
    · refine vx_catch (name := "java/lang/IllegalArgumentException") hown [⟨0, 10, 13, 19⟩] ⟨0, 10, 17, 25⟩ [] (by rw [htab]; rfl) (List.forall_mem_cons.mpr ⟨Or.inr ⟨by decide, "java/lang/IndexOutOfBoundsException", hts _ (hw_win (w := .classLink RL 19 "java/lang/IndexOutOfBoundsException") (by decide +kernel) (by decide +kernel)), hk.2.2.2.2.2.2.2.1 ("java/lang/IllegalArgumentException", "java/lang/IndexOutOfBoundsException") (by decide +kernel)⟩, fun _ h => absurd h List.not_mem_nil⟩) (by decide) (by decide) (hts _ (hw_win (w := .classLink RL 25 "java/lang/IllegalArgumentException") (by decide +kernel) (by decide +kernel))) (va_Nw.use rfl (hk.2.2.2.2.2.2.1 ("java/lang/IllegalArgumentException", "java/lang/IllegalArgumentException") (by decide +kernel))) g1 g2 g3 ?_
      refine lv_astore (lv' := [(4, .ref q9), (0, .ref (ad 0 0)), (1, .int ka), (2, .int kw), (3, .ref oa)]) hx hb dL_bestSpeed_17 hl (by decide) rfl (fun ls hl => ?_)
      refine lv_iconst (v := nI 2) hx hb dL_bestSpeed_19 (by decide) ?_
      exact hret hI (hl_x hP ho hc8 (by decide) hS9) (Nat.le_of_ble_eq_true rfl) (Nat.le_of_ble_eq_true rfl) dL_bestSpeed_20
  · have ho9 : M9 oa = hw_al Z 1 f := (hR.2.2.2 oa hbo).trans ho
    refine lv_i2l (v := r9.toInt64) hx hb dL_bestSpeed_8 rfl ?_
    refine hw_last hx hb hk hI ho9 (j := 0) rfl (by omega) (by decide) dL_bestSpeed_9 (fun H locs hI => ?_)
    refine lv_goto (tgt := 21) hx hb dL_bestSpeed_10 (by decide) ?_
    refine lv_iconst (v := nI 0) hx hb dL_bestSpeed_21 (by decide) ?_
    exact hret hI (hl_y hR hbo rfl) (Nat.le_of_ble_eq_true rfl) (Nat.le_of_ble_eq_true rfl) dL_bestSpeed_22
