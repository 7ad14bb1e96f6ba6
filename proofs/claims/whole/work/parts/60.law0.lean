/-! The law: two halls side by side. -/
/-- what a call of the reference must keep: the two arrays, the class's cells -/
def lw_c (oa da : Nat) (ad : hp_ad) (a : Nat) : Prop := a = oa ∨ a = da ∨ ∃ k i, i < hp_n k ∧ a = ad k i
/-- what a call of the class must keep: the two arrays, the reference's cells -/
def lw_b (oa da : Nat) (ae : hp_ad) (S : hs_S) (X : hr_X) (a : Nat) : Prop := a = oa ∨ a = da ∨ ∃ k i, hr_p S X k i ∧ a = ae k i
/-- both halls at S, each with its own cells -/
def lw_2 (Z : hw_Z) (M : hw_M) (oa da : Nat) (ad ae : hp_ad) (Sc Sr : hs_S) (T : hp_T) (X : hr_X) : Prop := hp_ok Z (lw_b oa da ae Sr X) M ad Sc T ∧ hr_ok Z (lw_c oa da ad) M ae Sr X
def lw_ok (Z : hw_Z) (M : hw_M) (oa da : Nat) (ad ae : hp_ad) (S : hs_S) : Prop := ∃ (T : hp_T) (X : hr_X) (f : Nat → Int64) (g : Nat → UInt64), lw_2 Z M oa da ad ae S S T X ∧ hv_ok S ∧ M oa = hw_al Z 1 f ∧ M da = hw_ad Z 1 g
theorem hp_s (Z : hw_Z) (ad : hp_ad) (S : hs_S) (T : hp_T) {k i : Nat} (hi : i < hp_n k) : hp_e Z ad S T k i ≠ none := by
  rcases k with _ | _ | _ | _ | _ | _ | _ | _ | _ | _ | k
  · rcases i with _ | _ | _ | _ | _ | _ | _ | _ | _ | i <;> exact (by intro q; cases q)
  all_goals exact (by intro q; cases q)
theorem lw_A {Z : hw_Z} {M : hw_M} {oa da : Nat} {ad ae : hp_ad} {Sc Sr : hs_S} {T : hp_T} {X : hr_X} (h : lw_2 Z M oa da ad ae Sc Sr T X) (h1 : M oa ≠ none) (h2 : M da ≠ none) : ∀ a, lw_c oa da ad a → M a ≠ none := by
  intro a ha
  rcases ha with rfl | rfl | ⟨k, i, hi, rfl⟩
  · exact h1
  · exact h2
  · rw [h.1.m k i hi]; exact hp_s Z ad Sc T hi
/-- behind a call of the class -/
theorem lw_1c {Z : hw_Z} {M M' : hw_M} {oa da : Nat} {ad ae : hp_ad} {Sc Sc' Sr : hs_S} {T T' : hp_T} {X : hr_X} (h : lw_2 Z M oa da ad ae Sc Sr T X) (hp : hp_ok Z (lw_b oa da ae Sr X) M' ad Sc' T') (hf : ∀ a, lw_b oa da ae Sr X a → a ≠ oa → a ≠ da → M' a = M a) : lw_2 Z M' oa da ad ae Sc' Sr T' X := by
  refine ⟨hp, fun k i hi => ?_, h.2.2⟩
  have n1 := h.2.f hi (a := oa) (Or.inl rfl)
  have n2 := h.2.f hi (a := da) (Or.inr (Or.inl rfl))
  rw [hf _ (Or.inr (Or.inr ⟨k, i, hi, rfl⟩)) (Ne.symm n1) (Ne.symm n2)]
  exact h.2.m k i hi
/-- behind a call of the reference -/
theorem lw_1r {Z : hw_Z} {M M' : hw_M} {oa da : Nat} {ad ae ae' : hp_ad} {Sc Sr Sr' : hs_S} {T : hp_T} {X X' : hr_X} (h : lw_2 Z M oa da ad ae Sc Sr T X) (hr : hr_ok Z (lw_c oa da ad) M' ae' Sr' X') (hf : ∀ a, lw_c oa da ad a → M' a = M a) : lw_2 Z M' oa da ad ae' Sc Sr' T X' := by
  refine ⟨⟨fun k i hi => ?_, h.1.2.1, fun k i hi hb => ?_, h.1.2.2.2⟩, hr⟩
  · rw [hf _ (Or.inr (Or.inr ⟨k, i, hi, rfl⟩))]; exact h.1.m k i hi
  · rcases hb with q | q | ⟨k', i', hi', q⟩
    · exact h.1.f hi (a := oa) (Or.inl rfl) q.symm
    · exact h.1.f hi (a := da) (Or.inr (Or.inl rfl)) q.symm
    · exact hr.f hi' (a := ad k i) (Or.inr (Or.inr ⟨k, i, hi, rfl⟩)) q
/-- a wrapper's call -/
theorem lw_w {Z : hw_Z} {M M' : hw_M} {oa da : Nat} {ad ae : hp_ad} {S : hs_S} {T : hp_T} {X : hr_X} {g : Nat → UInt64} {α : Type} {o : Nat × α × hs_S} {cv : α → Int64} {r : Int32} {f : Nat → Int64} (h : lw_2 Z M oa da ad ae S S T X) (ho : M oa = hw_al Z 1 f) (hd : M da = hw_ad Z 1 g) (hw : hl_L Z (lw_b oa da ae S X) M ad oa o cv r M') : nI o.1 = r ∧ ∃ T' f', lw_2 Z M' oa da ad ae o.2.2 S T' X ∧ M' oa = hw_al Z 1 f' ∧ (o.1 = 0 → f' 0 = cv o.2.1) ∧ M' da = hw_ad Z 1 g := by
  obtain ⟨h1, ⟨T', h2⟩, h3, f', h4, h5⟩ := hw
  have nod : oa ≠ da := hw_naa ho hd (by intro q; cases q)
  exact ⟨h1, T', f', lw_1c h h2 (fun a ha n1 _ => h3 a ha n1), h4, h5, (h3 da (Or.inr (Or.inl rfl)) (Ne.symm nod)).trans hd⟩
theorem lw_wd {Z : hw_Z} {M M' : hw_M} {oa da : Nat} {ad ae : hp_ad} {S : hs_S} {T : hp_T} {X : hr_X} {g : Nat → UInt64} {o : Nat × UInt64 × hs_S} {r : Int32} {f : Nat → Int64} (h : lw_2 Z M oa da ad ae S S T X) (ho : M oa = hw_al Z 1 f) (hd : M da = hw_ad Z 1 g) (hw : hl_D Z (lw_b oa da ae S X) M ad da o r M') : nI o.1 = r ∧ ∃ T' g', lw_2 Z M' oa da ad ae o.2.2 S T' X ∧ M' oa = hw_al Z 1 f ∧ M' da = hw_ad Z 1 g' ∧ (o.1 = 0 → g' 0 = o.2.1) := by
  obtain ⟨h1, ⟨T', h2⟩, h3, g', h4, h5⟩ := hw
  have nod : oa ≠ da := hw_naa ho hd (by intro q; cases q)
  exact ⟨h1, T', g', lw_1c h h2 (fun a ha _ n2 => h3 a ha n2), (h3 oa (Or.inl rfl) nod).trans ho, h4, h5⟩
/-- the reference's call behind it -/
theorem lw_r {Z : hw_Z} {M M' : hw_M} {oa da : Nat} {ad ae : hp_ad} {S : hs_S} {T : hp_T} {X : hr_X} {f : Nat → Int64} {g : Nat → UInt64} {α : Type} {o : Nat × α × hs_S} {r : α} (h : lw_2 Z M oa da ad ae o.2.2 S T X) (ho : M oa = hw_al Z 1 f) (hd : M da = hw_ad Z 1 g) (hw : hr_R Z (lw_c oa da ad) M ae o r M') : ∃ ae' X', ae' 0 0 = ae 0 0 ∧ lw_2 Z M' oa da ad ae' o.2.2 o.2.2 T X' ∧ M' oa = hw_al Z 1 f ∧ M' da = hw_ad Z 1 g ∧ hr_th X' = nI o.1 ∧ (o.1 = 0 → o.2.1 = r) := by
  obtain ⟨ae', X', h1, h2, h3, h4, h5⟩ := hw
  exact ⟨ae', X', h1, lw_1r h h2 h5, (h5 oa (Or.inl rfl)).trans ho, (h5 da (Or.inr (Or.inl rfl))).trans hd, h3, h4⟩
/-- the asks leave the hall as it was -/
theorem ha_if {p : Prop} [Decidable p] {α : Type} {S : hs_S} {x y : Nat × α × hs_S} (h1 : x.2.2 = S) (h2 : y.2.2 = S) : (if p then x else y).2.2 = S := by split <;> assumption
theorem ha_ofPiece (S : hs_S) (p w : Int32) : (st_ofPiece S p w).2.2 = S := by unfold st_ofPiece; repeat (first | rfl | refine ha_if rfl ?_)
theorem ha_ofLayer (S : hs_S) (p k w : Int32) : (st_ofLayer S p k w).2.2 = S := by unfold st_ofLayer; repeat (first | rfl | refine ha_if rfl ?_)
theorem ha_ofPowder (S : hs_S) (p w : Int32) : (st_ofPowder S p w).2.2 = S := by unfold st_ofPowder; repeat (first | rfl | refine ha_if rfl ?_)
theorem ha_ofMachine (S : hs_S) (p w : Int32) : (st_ofMachine S p w).2.2 = S := by unfold st_ofMachine; repeat (first | rfl | refine ha_if rfl ?_)
theorem ha_warm (S : hs_S) (p k w : Int32) : (st_warm S p k w).2.2 = S := by unfold st_warm; repeat (first | rfl | refine ha_if rfl ?_)
theorem ha_measure (S : hs_S) (p w : Int32) : (st_measure S p w).2.2 = S := by unfold st_measure; repeat (first | rfl | refine ha_if rfl ?_)
theorem ha_recall (S : hs_S) (p : Int32) : (st_recall S p).2.2 = S := by unfold st_recall; repeat (first | rfl | refine ha_if rfl ?_)
theorem ha_many (S : hs_S) (p : Int32) : (st_many S p).2.2 = S := by unfold st_many; repeat (first | rfl | refine ha_if rfl ?_)
theorem ha_wouldHold (S : hs_S) (p w : Int32) : (st_wouldHold S p w).2.2 = S := by unfold st_wouldHold; repeat (first | rfl | refine ha_if rfl ?_)
theorem ha_bestWay (S : hs_S) (p : Int32) : (st_bestWay S p).2.2 = S := by unfold st_bestWay; repeat (first | rfl | refine ha_if rfl ?_)
theorem ha_bestSpeed (S : hs_S) (p w : Int32) : (st_bestSpeed S p w).2.2 = S := by unfold st_bestSpeed; repeat (first | rfl | refine ha_if rfl ?_)
/-- an answer's code is small -/
theorem hc_if {p : Prop} [Decidable p] {α : Type} {x y : Nat × α × hs_S} (h1 : x.1 ≤ 3) (h2 : y.1 ≤ 3) : (if p then x else y).1 ≤ 3 := by split <;> assumption
theorem hc_0 {n : Nat} (h : n ≤ 3) : nI n = 0 ↔ n = 0 := by
  have : ∀ n, n ≤ 3 → (nI n = 0 ↔ n = 0) := by decide +kernel
  exact this n h
theorem hc_piece (S : hs_S)  : (st_piece S ).1 ≤ 3 := by unfold st_piece; repeat (first | exact Nat.le_of_ble_eq_true rfl | refine hc_if (Nat.le_of_ble_eq_true rfl) ?_)
theorem hc_layer (S : hs_S) (ka kb : Int32) (x : Int64) : (st_layer S ka kb x).1 ≤ 3 := by unfold st_layer; repeat (first | exact Nat.le_of_ble_eq_true rfl | refine hc_if (Nat.le_of_ble_eq_true rfl) ?_)
theorem hc_lay (S : hs_S) (ka kb : Int32) : (st_lay S ka kb).1 ≤ 3 := by unfold st_lay; repeat (first | exact Nat.le_of_ble_eq_true rfl | refine hc_if (Nat.le_of_ble_eq_true rfl) ?_)
theorem hc_powder (S : hs_S) (ka kb : Int32) : (st_powder S ka kb).1 ≤ 3 := by unfold st_powder; repeat (first | exact Nat.le_of_ble_eq_true rfl | refine hc_if (Nat.le_of_ble_eq_true rfl) ?_)
theorem hc_blend (S : hs_S) (ka kb : Int32) : (st_blend S ka kb).1 ≤ 3 := by unfold st_blend; repeat (first | exact Nat.le_of_ble_eq_true rfl | refine hc_if (Nat.le_of_ble_eq_true rfl) ?_)
theorem hc_load (S : hs_S) (ka kb : Int32) : (st_load S ka kb).1 ≤ 3 := by unfold st_load; repeat (first | exact Nat.le_of_ble_eq_true rfl | refine hc_if (Nat.le_of_ble_eq_true rfl) ?_)
theorem hc_unload (S : hs_S) (ka : Int32) : (st_unload S ka).1 ≤ 3 := by unfold st_unload; repeat (first | exact Nat.le_of_ble_eq_true rfl | refine hc_if (Nat.le_of_ble_eq_true rfl) ?_)
theorem hc_clean (S : hs_S) (ka : Int32) : (st_clean S ka).1 ≤ 3 := by unfold st_clean; repeat (first | exact Nat.le_of_ble_eq_true rfl | refine hc_if (Nat.le_of_ble_eq_true rfl) ?_)
theorem hc_start (S : hs_S) (ka kb kc kd : Int32) : (st_start S ka kb kc kd).1 ≤ 3 := by unfold st_start; repeat (first | exact Nat.le_of_ble_eq_true rfl | refine hc_if (Nat.le_of_ble_eq_true rfl) ?_)
theorem hc_grow (S : hs_S) (ka kb : Int32) : (st_grow S ka kb).1 ≤ 3 := by unfold st_grow; repeat (first | exact Nat.le_of_ble_eq_true rfl | refine hc_if (Nat.le_of_ble_eq_true rfl) ?_)
theorem hc_stop (S : hs_S) (ka : Int32) : (st_stop S ka).1 ≤ 3 := by unfold st_stop; repeat (first | exact Nat.le_of_ble_eq_true rfl | refine hc_if (Nat.le_of_ble_eq_true rfl) ?_)
theorem hc_relieve (S : hs_S) (ka : Int32) : (st_relieve S ka).1 ≤ 3 := by unfold st_relieve; repeat (first | exact Nat.le_of_ble_eq_true rfl | refine hc_if (Nat.le_of_ble_eq_true rfl) ?_)
theorem hc_saw (S : hs_S) (ka : Int32) : (st_saw S ka).1 ≤ 3 := by unfold st_saw; repeat (first | exact Nat.le_of_ble_eq_true rfl | refine hc_if (Nat.le_of_ble_eq_true rfl) ?_)
theorem hc_press (S : hs_S) (ka : Int32) : (st_press S ka).1 ≤ 3 := by unfold st_press; repeat (first | exact Nat.le_of_ble_eq_true rfl | refine hc_if (Nat.le_of_ble_eq_true rfl) ?_)
theorem hc_prove (S : hs_S) (ka : Int32) : (st_prove S ka).1 ≤ 3 := by unfold st_prove; repeat (first | exact Nat.le_of_ble_eq_true rfl | refine hc_if (Nat.le_of_ble_eq_true rfl) ?_)
theorem hc_accept (S : hs_S) (ka : Int32) : (st_accept S ka).1 ≤ 3 := by unfold st_accept; repeat (first | exact Nat.le_of_ble_eq_true rfl | refine hc_if (Nat.le_of_ble_eq_true rfl) ?_)
theorem hc_ofPiece (S : hs_S) (ka kb : Int32) : (st_ofPiece S ka kb).1 ≤ 3 := by unfold st_ofPiece; repeat (first | exact Nat.le_of_ble_eq_true rfl | refine hc_if (Nat.le_of_ble_eq_true rfl) ?_)
theorem hc_ofLayer (S : hs_S) (ka kb kc : Int32) : (st_ofLayer S ka kb kc).1 ≤ 3 := by unfold st_ofLayer; repeat (first | exact Nat.le_of_ble_eq_true rfl | refine hc_if (Nat.le_of_ble_eq_true rfl) ?_)
theorem hc_ofPowder (S : hs_S) (ka kb : Int32) : (st_ofPowder S ka kb).1 ≤ 3 := by unfold st_ofPowder; repeat (first | exact Nat.le_of_ble_eq_true rfl | refine hc_if (Nat.le_of_ble_eq_true rfl) ?_)
theorem hc_ofMachine (S : hs_S) (ka kb : Int32) : (st_ofMachine S ka kb).1 ≤ 3 := by unfold st_ofMachine; repeat (first | exact Nat.le_of_ble_eq_true rfl | refine hc_if (Nat.le_of_ble_eq_true rfl) ?_)
theorem hc_warm (S : hs_S) (ka kb kc : Int32) : (st_warm S ka kb kc).1 ≤ 3 := by unfold st_warm; repeat (first | exact Nat.le_of_ble_eq_true rfl | refine hc_if (Nat.le_of_ble_eq_true rfl) ?_)
theorem hc_measure (S : hs_S) (ka kb : Int32) : (st_measure S ka kb).1 ≤ 3 := by unfold st_measure; repeat (first | exact Nat.le_of_ble_eq_true rfl | refine hc_if (Nat.le_of_ble_eq_true rfl) ?_)
theorem hc_recall (S : hs_S) (ka : Int32) : (st_recall S ka).1 ≤ 3 := by unfold st_recall; repeat (first | exact Nat.le_of_ble_eq_true rfl | refine hc_if (Nat.le_of_ble_eq_true rfl) ?_)
theorem hc_many (S : hs_S) (ka : Int32) : (st_many S ka).1 ≤ 3 := by unfold st_many; repeat (first | exact Nat.le_of_ble_eq_true rfl | refine hc_if (Nat.le_of_ble_eq_true rfl) ?_)
theorem hc_wouldHold (S : hs_S) (ka kb : Int32) : (st_wouldHold S ka kb).1 ≤ 3 := by unfold st_wouldHold; repeat (first | exact Nat.le_of_ble_eq_true rfl | refine hc_if (Nat.le_of_ble_eq_true rfl) ?_)
theorem hc_bestWay (S : hs_S) (ka : Int32) : (st_bestWay S ka).1 ≤ 3 := by unfold st_bestWay; repeat (first | exact Nat.le_of_ble_eq_true rfl | refine hc_if (Nat.le_of_ble_eq_true rfl) ?_)
theorem hc_bestSpeed (S : hs_S) (ka kb : Int32) : (st_bestSpeed S ka kb).1 ≤ 3 := by unfold st_bestSpeed; repeat (first | exact Nat.le_of_ble_eq_true rfl | refine hc_if (Nat.le_of_ble_eq_true rfl) ?_)
/-! The law's frame: what holds all along; its own static calls; its script. -/
def lw_cx (p : Program) (s : State) (m : MethodId) (c : Code) (Z : hw_Z) (b L : Nat) (xs : Nat → Int32) : Prop :=
  p.tables.exec = Jvm.exec ∧ c.code = cL_law ∧ c.maxLocals = 9 ∧ s.vm.findClass RL = some m.cls ∧ (∀ w ∈ hw_ws, w.before #[Value.ref b] s = true) ∧ hw_kk Z s ∧ va_X b L xs s s.heap ∧ b < s.heap.size ∧ ¬ hw_A Z b ∧ L ≤ 2560
def hw_CSH (own : String) (index : Nat) (y : MethodName) (bytes : ByteArray) (maxL : Nat) (ret : Option FieldType) (hh : List (Nat × Nat × Nat × Nat)) (n : Nat) : Prop :=
  (y.cls ≠ "java/lang/invoke/MethodHandle" ∧ y.cls ≠ "java/lang/invoke/VarHandle" ∧ (parseMethodDescriptor y.desc).map (fun d => d.parameters.length) = some n) ∧ Cond.codeWith y bytes maxL ret hh ∈ hw_ws ∧ Cond.initialized y.cls ∈ hw_ws ∧ Cond.methodLink own index y ∈ hw_ws ∧ Cond.static y ∈ hw_ws
section LWC
variable {p : Program} {l : Launch} {e : Env} {R : Room} {s : State} {m : MethodId} {args : Array Value} {below : List Frame} {meth : Method} {c : Code} {H : Heap} {locs : List Loc} {cells slots : Nat} {Q : State → Prop}
variable {cc : ByteArray} {pc : Nat} {ls : Array Slot} {rest st0 : List Value} {Z : hw_Z} {M : hw_M}
theorem hw_rSH {bytes : ByteArray} {maxL nL mc ms n index : Nat} {ret : Option FieldType} {hh : List (Nat × Nat × Nat × Nat)} {rm : Room} {y : MethodName} {own : String} {As : List Value} {Qc : Array Value → State → Outcome → State → Prop} (hx : p.tables.exec = Jvm.exec) (hb : c.code = cc) (hml : c.maxLocals = nL) (hown : s.vm.findClass own = some m.cls) (hts : ∀ w ∈ hw_ws, w.before args s = true) (hk : hw_kk Z s) (hI : hw_iv Z s M H locs)
    (hM : Met l y (hw_mH y bytes maxL ret hh) rm (va_Pc As (hw_P Z M)) Qc mc ms (hw_A Z)) (hcv : hw_CSH own index y bytes maxL ret hh n) (hr : rm.cells = mc ∧ rm.slots = ms) (hR : rm.frames + 1 ≤ R.frames ∧ 8 + (maxL + 11) + rm.locals ≤ R.locals)
    (hn : As.length = n) (hsz : ls.size = nL) (hst : st0 = As.reverse ++ rest) (hW : (rest.map fun v => v.category).sum ≤ 8) (hf : cells + mc ≤ R.cells ∧ slots + ms ≤ R.slots) (hdg : decode cc pc = .ok (.invokestatic index, 3)) :
    va_Run p l e R s m args below meth c H locs cells slots mc ms (F0 m pc ls st0) rest (Qc As.toArray) (hw_A Z) := by
  have hG : GoodIn hw_ws (va_wsS own index y (hw_mH y bytes maxL ret hh)) := by
    refine hw_gc hcv.2.2.2.1 (hw_gc hcv.2.2.2.2 (hw_gc hcv.2.2.1 (hw_gc hcv.2.1 ?_)))
    exact fun w h => ⟨h, good_of_word (hw_wgood h)⟩
  exact vx_runSW (As := As) (rest := rest) (Ts := hw_ws) ⟨hx, hb, hml, hown, hts⟩ hM (vx_cwSW n hts hG rfl hr.1 hr.2 hcv.1 hR) (hw_ps hk hI) rfl hn hsz hst (lv_room hW) hdg hf
theorem lw_sld {b L : Nat} {xs : Nat → Int32} {i : Int32} {j : Nat} (hx : p.tables.exec = Jvm.exec) (hb : c.code = cc) (hX : va_X b L xs s s.heap) (hbl : b < s.heap.size) (hbA : ¬ hw_A Z b) (hL : L ≤ 2560) (hI : hw_iv Z s M H locs) (hi : i = nI j) (hj : j < L) (hdg : decode cc pc = .ok (.iaload, 1))
    (kk : W p l e R s m args below meth c H locs cells slots Q (F0 m (pc + 1) ls (.int (xs j) :: rest))) : W p l e R s m args below meth c H locs cells slots Q (F0 m pc ls (.int i :: .ref b :: rest)) := by
  subst hi
  refine va_sld hx hb hX hbl hbA hI.2.1 (nI_in hj (by omega)) hdg ?_
  rw [nI_clamp (by omega)]; exact kk
end LWC
