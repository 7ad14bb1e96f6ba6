/-! The law from its entry to its end, given what its start gives (hw_kk). -/
theorem lw_go {p : Program} {e : Env} {s : State} {m : MethodId} {below : List Frame} {meth : Method} {c : Code} (l : Launch) (hst : l.stackTraces = false) {b L : Nat} {xs : Nat → Int32} (hL : L ≤ 2560) (C0 : lw_At p s m meth c b L xs) {Z : hw_Z} (hk : hw_kk Z s) (hz : Z.2.2.1 = s.heap.size) : W p l e room_1 s m #[Value.ref b] below meth c s.heap [] 0 0 (lw_Z below #[Value.ref b] s) (entryFrame m ([Value.ref b] : List Value).toArray 9) := by
  obtain ⟨hx, hb, hr, hml, hown, hts, hX, hbl, hlk, _⟩ := C0
  have hd0 := Drawn.sameBut.refl s.drawn lw_cs
  have hb' : c.code = cL_law := hb
  rw [lg_entry_eq]
  have hl := lv_entry ([.ref b]) (n := 9) (Nat.le_of_ble_eq_true rfl)
  generalize (lg_sl ([.ref b]) ++ List.replicate (9 - (lg_sl ([.ref b])).length) Slot.unset).toArray = ls at hl ⊢
  have hl : lv_has ls 9 [(0, .ref b)] := hl
  refine lw_begin (Z := Z) (M := fun _ => none) (xs := xs) (L := L) hst ⟨hx, hb', hml, hown, fun w h => hts w (List.mem_filter.mp h).1, hk, hX, hbl, by show ¬ Z.2.2.1 ≤ b; omega, hL⟩ (fun M H locs cells slots ls hI hc hs => ?_) ⟨fun _ _ h9 => (by cases h9), va_S.rf, by rw [hz]; exact Nat.le_refl _⟩ hl
  refine lv_iconst (v := nI 1) hx hb' dL_law_2019 (by decide) ?_
  refine va_forget (fun q hq => by have h9 : Z.2.2.1 ≤ q.base := hI.2.1.2.2 q hq; omega) ?_
  refine W.widen hc hs ?_
  refine W.base ?_
  exact lw_ret hd0 hx hb hr hlk dL_law_2020
