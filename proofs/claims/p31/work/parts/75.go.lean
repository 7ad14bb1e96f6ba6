/-! The law from its entry to its end, given what its start gives (hw_kk). -/
theorem lw_go {p : Program} {e : Env} {s : State} {m : MethodId} {below : List Frame} {meth : Method} {c : Code} (l : Launch) (hst : l.stackTraces = false) {b L : Nat} {xs : Nat → Int32} (hL : L ≤ 260) (C0 : lw_At p s m meth c b L xs) {Z : hw_Z} (hk : hw_kk Z s) (hz : Z.2.2.1 = s.heap.size) (hzb : Z.2.2.2 = b) : W p l e room_1 s m #[Value.ref b] below meth c s.heap [] 0 0 (lw_Z below #[Value.ref b] s) (entryFrame m ([Value.ref b] : List Value).toArray 19) := by
  subst hzb
  obtain ⟨hx, hb, hr, hml, hown, hts, hX, hbl, hlk, _⟩ := C0
  have hd0 := Drawn.sameBut.refl s.drawn lw_cs
  have hb' : c.code = cL_law := hb
  rw [lg_entry_eq]
  have hl := lv_entry ([.ref Z.2.2.2]) (n := 19) (Nat.le_of_ble_eq_true rfl)
  generalize (lg_sl ([.ref Z.2.2.2]) ++ List.replicate (19 - (lg_sl ([.ref Z.2.2.2])).length) Slot.unset).toArray = ls at hl ⊢
  have hl : lv_has ls 19 [(0, .ref Z.2.2.2)] := hl
  refine lw_law (Z := Z) (M := fun _ => none) hst ⟨hx, hb', hml, hown, fun w h => hts w (List.mem_filter.mp h).1, hk⟩ ⟨fun _ _ h9 => (by cases h9), va_S.rf, by rw [hz]; exact Nat.le_refl _⟩ hl (by omega) (by omega) (fun M1 H1 L1 c1 s1 ls1 hI hl1 hc hs => ?_)
  refine lv_iconst (v := nI 1) hx hb' dL_law_729 (by decide) ?_
  refine va_forget (fun q hq => by have h9 : Z.2.2.1 ≤ q.base := hI.2.1.2.2 q hq; omega) ?_
  refine W.widen (show c1 ≤ 600104 by omega) (show s1 ≤ 7301314 by omega) ?_
  refine W.base ?_
  exact lw_ret hd0 hx hb hr hlk dL_law_730
