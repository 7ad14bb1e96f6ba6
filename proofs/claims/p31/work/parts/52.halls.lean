/-! Calls of the class that don't throw here; the class's hall beside other cells. -/
section HWY
variable {p : Program} {l : Launch} {e : Env} {R : Room} {s : State} {m : MethodId} {args : Array Value} {below : List Frame} {meth : Method} {c : Code} {H : Heap} {locs : List Loc} {cells slots : Nat} {Q : State → Prop}
variable {cc : ByteArray} {pc : Nat} {ls : Array Slot} {rest st0 : List Value} {Z : hw_Z} {M : hw_M} {mc ms : Nat} {XR : String → hw_M → Prop} {av : Array Value}
theorem hw_yi {RR : Int32 → hw_M → Prop} (hI : hw_iv Z s M H locs) (hr : vx_Run p l e R s m args below meth c H locs cells slots mc ms (F0 m pc ls st0) rest (hw_Qi Z RR av) (hw_X Z XR) (hw_A Z))
    (kx : ∀ (E : String) (ce : Cell) (q9 : Nat) (M1 : hw_M) (H1 : Heap) (locs1 : List Loc), hw_iv Z s M1 H1 locs1 → XR E M1 → H1[q9]? = some ce → ce.vm = .none → s.vm.findClass E = some ce.cls → vx_W p l e R s m args below meth c H1 locs1 (cells + mc) (slots + ms) Q (F0 m pc ls rest) q9)
    (kk : ∀ (r : Int32) (M1 : hw_M) (H1 : Heap) (locs1 : List Loc), RR r M1 → hw_iv Z s M1 H1 locs1 → W p l e R s m args below meth c H1 locs1 (cells + mc) (slots + ms) Q (F0 m (pc + 3) ls (.int r :: rest))) : W p l e R s m args below meth c H locs cells slots Q (F0 m pc ls st0) :=
  vx_calli hr hI.2.1 (fun _ _ h => h) (fun _ h => h) (fun _ _ h => h) (fun E ce q9 u t H1 locs1 ht _ _ hB _ _ hS g1 g2 g3 => kx E ce q9 u H1 locs1 ⟨by rw [← ht]; exact hB.1, hS, hI.2.2⟩ hB.2 g1 g2 g3) (fun r u t H1 locs1 ht _ hw hB _ _ hS => kk r u H1 locs1 hw ⟨by rw [← ht]; exact hB, hS, hI.2.2⟩)
theorem hw_yl {RR : Int64 → hw_M → Prop} (hI : hw_iv Z s M H locs) (hr : vx_Run p l e R s m args below meth c H locs cells slots mc ms (F0 m pc ls st0) rest (hw_Ql Z RR av) (hw_X Z XR) (hw_A Z))
    (kx : ∀ (E : String) (ce : Cell) (q9 : Nat) (M1 : hw_M) (H1 : Heap) (locs1 : List Loc), hw_iv Z s M1 H1 locs1 → XR E M1 → H1[q9]? = some ce → ce.vm = .none → s.vm.findClass E = some ce.cls → vx_W p l e R s m args below meth c H1 locs1 (cells + mc) (slots + ms) Q (F0 m pc ls rest) q9)
    (kk : ∀ (r : Int64) (M1 : hw_M) (H1 : Heap) (locs1 : List Loc), RR r M1 → hw_iv Z s M1 H1 locs1 → W p l e R s m args below meth c H1 locs1 (cells + mc) (slots + ms) Q (F0 m (pc + 3) ls (.long r :: rest))) : W p l e R s m args below meth c H locs cells slots Q (F0 m pc ls st0) :=
  vx_calll hr hI.2.1 (fun _ _ h => h) (fun _ h => h) (fun _ _ h => h) (fun E ce q9 u t H1 locs1 ht _ _ hB _ _ hS g1 g2 g3 => kx E ce q9 u H1 locs1 ⟨by rw [← ht]; exact hB.1, hS, hI.2.2⟩ hB.2 g1 g2 g3) (fun r u t H1 locs1 ht _ hw hB _ _ hS => kk r u H1 locs1 hw ⟨by rw [← ht]; exact hB, hS, hI.2.2⟩)
theorem hw_yd {RR : UInt64 → hw_M → Prop} (hI : hw_iv Z s M H locs) (hr : vx_Run p l e R s m args below meth c H locs cells slots mc ms (F0 m pc ls st0) rest (hw_Qd Z RR av) (hw_X Z XR) (hw_A Z))
    (kx : ∀ (E : String) (ce : Cell) (q9 : Nat) (M1 : hw_M) (H1 : Heap) (locs1 : List Loc), hw_iv Z s M1 H1 locs1 → XR E M1 → H1[q9]? = some ce → ce.vm = .none → s.vm.findClass E = some ce.cls → vx_W p l e R s m args below meth c H1 locs1 (cells + mc) (slots + ms) Q (F0 m pc ls rest) q9)
    (kk : ∀ (r : UInt64) (M1 : hw_M) (H1 : Heap) (locs1 : List Loc), RR r M1 → hw_iv Z s M1 H1 locs1 → W p l e R s m args below meth c H1 locs1 (cells + mc) (slots + ms) Q (F0 m (pc + 3) ls (.double r :: rest))) : W p l e R s m args below meth c H locs cells slots Q (F0 m pc ls st0) :=
  vx_calld hr hI.2.1 (fun _ _ h => h) (fun _ h => h) (fun _ _ h => h) (fun E ce q9 u t H1 locs1 ht _ _ hB _ _ hS g1 g2 g3 => kx E ce q9 u H1 locs1 ⟨by rw [← ht]; exact hB.1, hS, hI.2.2⟩ hB.2 g1 g2 g3) (fun r u t H1 locs1 ht _ hw hB _ _ hS => kk r u H1 locs1 hw ⟨by rw [← ht]; exact hB, hS, hI.2.2⟩)
end HWY
/-- no cell of the class -/
def hq_b (ad : hp_ad) (a : Nat) : Prop := ∀ k i, i < hp_n k → a ≠ ad k i
/-- a hall at S -/
def lh (Z : hw_Z) (M : hw_M) (ad : hp_ad) (S : hs_S) : Prop := ∃ T : hp_T, hp_ok Z (hq_b ad) M ad S T
theorem lp_s (Z : hw_Z) (ad : hp_ad) (S : hs_S) (T : hp_T) {k i : Nat} (hi : i < hp_n k) : hp_e Z ad S T k i ≠ none := by
  rcases k with _ | _ | _ | _ | _ | _ | _ | _ | _ | _ | k
  · rcases i with _ | _ | _ | _ | _ | _ | _ | _ | _ | i <;> exact (by intro q; cases q)
  all_goals exact (by intro q; cases q)
theorem lp_of {Z : hw_Z} {b1 : Nat → Prop} {M : hw_M} {ad : hp_ad} {S : hs_S} {T : hp_T} (h : hp_ok Z b1 M ad S T) : lh Z M ad S := ⟨T, h.1, h.2.1, fun k i hi hb => hb k i hi rfl, h.2.2.2⟩
theorem lp_m {Z : hw_Z} {M W : hw_M} {ad : hp_ad} {S : hs_S} (h : lh Z M ad S) (he : ∀ k i, i < hp_n k → W (ad k i) = M (ad k i)) : lh Z W ad S := by
  obtain ⟨T, h1, h2, h3, h4⟩ := h
  exact ⟨T, fun k i hi => (he k i hi).trans (h1 k i hi), h2, h3, h4⟩
theorem lp_c {Z : hw_Z} {M : hw_M} {ad : hp_ad} {S : hs_S} (h : lh Z M ad S) {k i : Nat} (hi : i < hp_n k) : M (ad k i) ≠ none := by
  obtain ⟨T, h1, -⟩ := h
  rw [h1 k i hi]; exact lp_s Z ad S T hi
/-- a cell beside the hall is written -/
theorem lp_w {Z : hw_Z} {M : hw_M} {ad : hp_ad} {S : hs_S} {a : Nat} {e : Option va_E} (h : lh Z M ad S) (ha : hq_b ad a) : lh Z (va_up M a e) ad S := lp_m h (fun k i hi => va_up_ne _ _ (Ne.symm (ha k i hi)))
/-- a new cell is none of the hall's -/
theorem lp_b {Z : hw_Z} {M : hw_M} {ad : hp_ad} {S : hs_S} {q : Nat} (h : lh Z M ad S) (hq : M q = none) : hq_b ad q := fun k i hi e => lp_c h hi (by rw [← e]; exact hq)
theorem lp_f {Z : hw_Z} {M W : hw_M} {ad : hp_ad} {S : hs_S} (h : lh Z M ad S) (hF : ∀ x, M x ≠ none → W x = M x) : lh Z W ad S := lp_m h (fun k i hi => hF _ (lp_c h hi))
theorem lp_0 {Z : hw_Z} {M : hw_M} {ad : hp_ad} {S : hs_S} {a : Nat} {e : va_E} (h : lh Z M ad S) (ha : M a = some e) (h0 : ∃ fs, e = .inr (0, fs)) : hq_b ad a := fun k i hi q => by
  obtain ⟨T, h1, -⟩ := h
  obtain ⟨fs, rfl⟩ := h0
  have h2 := h1 k i hi
  rw [← q, ha] at h2
  rcases k with _ | _ | _ | _ | _ | _ | _ | _ | _ | _ | k
  · rcases i with _ | _ | _ | _ | _ | _ | _ | _ | _ | i <;> cases h2
  all_goals cases h2
/-- an answer without an exception -/
theorem lr {α : Type} {Z : hw_Z} {M M' : hw_M} {ad : hp_ad} {o : Nat × α × hs_S} {c : Nat} {v r : α} {S' : hs_S} (ho : o = (c, v, S')) (hR : hq_R Z (hq_b ad) M ad o r M') : v = r ∧ lh Z M' ad S' ∧ ∀ a, hq_b ad a → M' a = M a := by
  subst ho
  obtain ⟨-, h2, ⟨T', h3⟩, h4⟩ := hR
  exact ⟨h2, ⟨T', h3⟩, h4⟩
theorem lt {α : Type} {Z : hw_Z} {M M' : hw_M} {ad : hp_ad} {v r : α} {S : hs_S} (hR : hq_T Z (hq_b ad) M ad S v r M') : v = r ∧ lh Z M' ad S ∧ ∀ a, hq_b ad a → M' a = M a := by
  obtain ⟨h2, ⟨T', h3⟩, h4⟩ := hR
  exact ⟨h2, ⟨T', h3⟩, h4⟩
theorem lx {α : Type} {o : Nat × α × hs_S} {v : α} {S' S : hs_S} {L : List String} {M M' : hw_M} {E : String} {G : Prop} (ho : o = (0, v, S')) (hX : hq_X L M S o E M') : G := by
  subst ho
  exact absurd hX.1.1 (Nat.lt_irrefl 0)
