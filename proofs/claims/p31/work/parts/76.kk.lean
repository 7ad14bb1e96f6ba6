/-! What the start gives: the words of the tables that aren't good ones. -/
theorem lk_N {s : State} {A : Array Value} (hts : ∀ w ∈ lw_tbl, w.before A s = true) : ∀ q ∈ hw_lN, va_Nw (.methodLinkNest q.1 q.2.1 q.2.2.1 q.2.2.2) s := fun q hq => va_Nw.of rfl (hts _ ((by decide +kernel : ∀ q ∈ hw_lN, Cond.methodLinkNest q.1 q.2.1 q.2.2.1 q.2.2.2 ∈ lw_tbl) q hq))
theorem lk_C {s : State} {A : Array Value} (hts : ∀ w ∈ lw_tbl, w.before A s = true) : ∀ q ∈ hw_lC, va_Nw (.castable q.1 q.2) s := fun q hq => va_Nw.of rfl (hts _ ((by decide +kernel : ∀ q ∈ hw_lC, Cond.castable q.1 q.2 ∈ lw_tbl) q hq))
theorem lk_D {s : State} {A : Array Value} (hts : ∀ w ∈ lw_tbl, w.before A s = true) : ∀ q ∈ hw_lD, va_Nw (.declares q) s := fun q hq => va_Nw.of rfl (hts _ ((by decide +kernel : ∀ q ∈ hw_lD, Cond.declares q ∈ lw_tbl) q hq))
theorem lk_F {s : State} {A : Array Value} (hts : ∀ w ∈ lw_tbl, w.before A s = true) : ∀ q ∈ hw_lF, (q.2.1.cls ≠ "java/lang/invoke/MethodHandle" ∧ q.2.1.cls ≠ "java/lang/invoke/VarHandle") ∧ va_Fw q.1 q.2.1 q.2.2 s := fun q hq =>
  ⟨(by decide +kernel : ∀ q ∈ hw_lF, q.2.1.cls ≠ "java/lang/invoke/MethodHandle" ∧ q.2.1.cls ≠ "java/lang/invoke/VarHandle") q hq,
   va_Fw.of (hts _ ((by decide +kernel : ∀ q ∈ hw_lF, Cond.declares q.2.1 ∈ lw_tbl) q hq)) (hts _ ((by decide +kernel : ∀ q ∈ hw_lF, Cond.interfaceMethod q.2.1.cls q.2.1.cls q.2.1.name q.2.1.desc ∈ lw_tbl) q hq)) (hts _ ((by decide +kernel : ∀ q ∈ hw_lF, Cond.publicMethod q.2.2 ∈ lw_tbl) q hq)) (hts _ ((by decide +kernel : ∀ q ∈ hw_lF, Cond.unhidden q.1 q.2.1.name q.2.1.desc ∈ lw_tbl) q hq)) (hts _ ((by decide +kernel : ∀ q ∈ hw_lF, Cond.castable q.1 q.2.1.cls ∈ lw_tbl) q hq))⟩
theorem lk_A {s : State} {A : Array Value} (hts : ∀ w ∈ lw_tbl, w.before A s = true) : ∀ q ∈ hw_lA, va_AO q s := fun q hq => va_AO.of (hts _ ((by decide +kernel : ∀ q ∈ hw_lA, Cond.arrayOver (.object q) ∈ lw_tbl) q hq))
theorem lk_X {s : State} : ∀ q ∈ hw_lX, va_Nc q.1 q.2 s := fun _ hq => absurd hq List.not_mem_nil
theorem lk_S {s : State} {A : Array Value} (hts : ∀ w ∈ lw_tbl, w.before A s = true) : ∀ q ∈ hw_lS, ∃ sa : Nat, vk_R q.1 q.2.1 q.2.2 sa s := by
  intro q hq
  have h := hts _ ((by decide +kernel : ∀ q ∈ hw_lS, Cond.stringRef q.1 q.2.1 q.2.2 ∈ lw_tbl) q hq)
  cases hc : s.vm.findClass q.1 with
  | none => simp [Cond.before, Cond.holds, Cond.value, hc] at h
  | some cur =>
    obtain ⟨_, _, _, a, -, -, -, -, -, he⟩ := Cond.stringRef_spec hc h
    exact ⟨a, vk_R.of h he⟩
theorem li_X6 : (∀ w ∈ u_ws RX6 TX6 11, w ∈ lw_tbl) ∧ Cond.instantiable RX6 11 ∈ lw_tbl := ⟨by decide +kernel, by decide +kernel⟩
theorem li_X0 : (∀ w ∈ u_ws RX0 TX0 7, w ∈ lw_tbl) ∧ Cond.instantiable RX0 7 ∈ lw_tbl := ⟨by decide +kernel, by decide +kernel⟩
theorem li_X1 : (∀ w ∈ u_ws RX1 TX1 3, w ∈ lw_tbl) ∧ Cond.instantiable RX1 3 ∈ lw_tbl := ⟨by decide +kernel, by decide +kernel⟩
theorem li_X2 : (∀ w ∈ u_ws RX2 TX2 13, w ∈ lw_tbl) ∧ Cond.instantiable RX2 13 ∈ lw_tbl := ⟨by decide +kernel, by decide +kernel⟩
theorem li_X3 : (∀ w ∈ u_ws RX3 TX3 6, w ∈ lw_tbl) ∧ Cond.instantiable RX3 6 ∈ lw_tbl := ⟨by decide +kernel, by decide +kernel⟩
theorem li_X4 : (∀ w ∈ u_ws RX4 TX4 3, w ∈ lw_tbl) ∧ Cond.instantiable RX4 3 ∈ lw_tbl := ⟨by decide +kernel, by decide +kernel⟩
theorem li_X5 : (∀ w ∈ u_ws RX5 TX5 9, w ∈ lw_tbl) ∧ Cond.instantiable RX5 9 ∈ lw_tbl := ⟨by decide +kernel, by decide +kernel⟩
theorem lk_cl {s : State} {A : Array Value} (hts : ∀ w ∈ lw_tbl, w.before A s = true) : ∃ G : va_G, ∀ (c : Nat) (q : vw_C), vwCl[c]? = some q → u_Kn s q.1 q.2.1 q.2.2 (G.1 c) (G.2 c) := by
  have h : ∀ (c : Nat) (q : vw_C), vwCl[c]? = some q → ∃ (cC : ClassId) (iS : Nat → Nat), u_Kn s q.1 q.2.1 q.2.2 cC iS := by
    intro c q hq
    match c, hq with
    | 0, hq => cases hq; exact u_known hts li_X6.1 (hts _ li_X6.2)
    | 1, hq => cases hq; exact u_known hts li_X0.1 (hts _ li_X0.2)
    | 2, hq => cases hq; exact u_known hts li_X1.1 (hts _ li_X1.2)
    | 3, hq => cases hq; exact u_known hts li_X2.1 (hts _ li_X2.2)
    | 4, hq => cases hq; exact u_known hts li_X3.1 (hts _ li_X3.2)
    | 5, hq => cases hq; exact u_known hts li_X4.1 (hts _ li_X4.2)
    | 6, hq => cases hq; exact u_known hts li_X5.1 (hts _ li_X5.2)
    | c + 7, hq => cases hq
  have h2 : ∀ c : Nat, ∃ z : ClassId × (Nat → Nat), ∀ q : vw_C, vwCl[c]? = some q → u_Kn s q.1 q.2.1 q.2.2 z.1 z.2 := by
    intro c
    cases hq : vwCl[c]? with
    | none => exact ⟨(0, fun _ => 0), fun q z => by cases z⟩
    | some q =>
      obtain ⟨a, b, hk⟩ := h c q hq
      exact ⟨(a, b), fun q' z => by cases z; exact hk⟩
  exact ⟨(fun c => (Classical.choose (h2 c)).1, fun c => (Classical.choose (h2 c)).2), fun c q hq => Classical.choose_spec (h2 c) q hq⟩
theorem lk_ar {s : State} {A : Array Value} {ty : FieldType} (h : (Cond.arrayClass ty).before A s = true) : ∃ c : ClassId, ArrOfT s c ty ∧ s.vm.findClass ("[" ++ ty.toString) = some c := by
  obtain ⟨c, k, comp, h1, h2, h3⟩ := Cond.arrayClass_spec h
  exact ⟨c, fun n z => ⟨fun k h => (by cases h), k, h2, comp, h3⟩, h1⟩
theorem lk_ao {s : State} {A : Array Value} {C : String} (h : (Cond.arrayOver (.object C)).before A s = true) : ∃ c : ClassId, ArrOfT s c (.object C) ∧ va_RA s c (.object C) := by
  obtain ⟨comp, c, k, h1, h2, h3, h4, h5⟩ := Cond.arrayOver_spec h
  exact ⟨c, fun n z => ⟨fun k h => (by cases h), k, h3, comp, h4⟩, k, comp, h3, h4, h1, h5⟩
theorem lk_aa {s : State} {A : Array Value} {t : FieldType} (h : (Cond.arrayOver (.array t)).before A s = true) : ∃ c : ClassId, ArrOfT s c (.array t) ∧ va_RA s c (.array t) := by
  obtain ⟨comp, c, k, h1, h2, h3, h4, h5⟩ := arrayOverA_spec h
  exact ⟨c, fun n z => ⟨fun k h => (by cases h), k, h3, comp, h4⟩, h5⟩
theorem lk_kk {s : State} {A : Array Value} (hts : ∀ w ∈ lw_tbl, w.before A s = true) (hg : (Jvm.Cond.and given_1 narrow_1).before A s = true) {b L : Nat} {xs : Nat → Int32} (hL : L ≤ 260) (hX : va_X b L xs s s.heap) (hbl : b < s.heap.size) : ∃ Z : hw_Z, hw_kk Z s ∧ Z.2.2.1 = s.heap.size ∧ Z.2.2.2 = b := by
  have hs := flat_of_before _ hg
  obtain ⟨G, hG⟩ := lk_cl hts
  obtain ⟨c0, a0, r0⟩ := lk_ar (hts (.arrayClass .int) (by decide +kernel))
  obtain ⟨c1, a1, r1⟩ := lk_ar (hts (.arrayClass .long) (by decide +kernel))
  obtain ⟨c2, a2, r2⟩ := lk_ar (hts (.arrayClass .double) (by decide +kernel))
  obtain ⟨c3, a3, r3⟩ := lk_ao (hts (.arrayOver (.object "MeltPool$Piece")) (by decide +kernel))
  obtain ⟨c4, a4, r4⟩ := lk_ao (hts (.arrayOver (.object "MeltPool$Powder")) (by decide +kernel))
  obtain ⟨c5, a5, r5⟩ := lk_ao (hts (.arrayOver (.object "MeltPool$Machine")) (by decide +kernel))
  obtain ⟨c6, a6, r6⟩ := lk_aa (hts (.arrayOver (.array .int)) (by decide +kernel))
  obtain ⟨c7, a7, r7⟩ := lk_aa (hts (.arrayOver (.array .boolean)) (by decide +kernel))
  obtain ⟨c8, a8, r8⟩ := lk_ar (hts (.arrayClass .boolean) (by decide +kernel))
  obtain ⟨c9, a9, r9⟩ := lk_aa (hts (.arrayOver (.array .double)) (by decide +kernel))
  have hA : ∀ a : Nat, a < s.heap.size → ¬ s.heap.size ≤ a := fun a h => Nat.not_le.mpr h
  have hU : vx_Zq Bundle.tN "UNASSIGNED_STACK" Bundle.steD (fun q : Nat => s.heap.size ≤ q) s s.heap := vx_Zqof (hts _ (by decide +kernel)) (hts _ (by decide +kernel)) (hs _ (by decide +kernel)) hA
  have hN : vx_Zq Bundle.tN "SUPPRESSED_SENTINEL" Bundle.listD (fun q : Nat => s.heap.size ≤ q) s s.heap := vx_Zqof (hts _ (by decide +kernel)) (hts _ (by decide +kernel)) (hs _ (by decide +kernel)) hA
  have hB : ∀ t ∈ hw_lB, hw_aa t s := fun t ht => over_moved (Vm.Alike.refl _) (hts _ ((by decide +kernel : ∀ t ∈ hw_lB, Cond.arrayOver (.array t) ∈ lw_tbl) t ht))
  obtain ⟨dA, h0, h1, h2, h3, h4, h5, h6, h7, h8, h9⟩ : ∃ dA : Nat → ClassId, dA 0 = c0 ∧ dA 1 = c1 ∧ dA 2 = c2 ∧ dA 3 = c3 ∧ dA 4 = c4 ∧ dA 5 = c5 ∧ dA 6 = c6 ∧ dA 7 = c7 ∧ dA 8 = c8 ∧ dA 9 = c9 :=
    ⟨fun k => match k with | 0 => c0 | 1 => c1 | 2 => c2 | 3 => c3 | 4 => c4 | 5 => c5 | 6 => c6 | 7 => c7 | 8 => c8 | _ => c9, rfl, rfl, rfl, rfl, rfl, rfl, rfl, rfl, rfl, rfl⟩
  subst h0; subst h1; subst h2; subst h3; subst h4; subst h5; subst h6; subst h7; subst h8; subst h9
  refine ⟨(G, dA, s.heap.size, b), ⟨⟨hG, ?_⟩, hU, hN, ⟨L, xs, hL, hX, hA b hbl⟩, hB, lk_N hts, lk_C hts, lk_X, lk_D hts, lk_F hts, lk_A hts, lk_S hts⟩, rfl, rfl⟩
  intro k q hq
  match k, hq with
  | 0, hq => cases hq; exact ⟨a0, r0⟩
  | 1, hq => cases hq; exact ⟨a1, r1⟩
  | 2, hq => cases hq; exact ⟨a2, r2⟩
  | 3, hq => cases hq; exact ⟨a3, r3⟩
  | 4, hq => cases hq; exact ⟨a4, r4⟩
  | 5, hq => cases hq; exact ⟨a5, r5⟩
  | 6, hq => cases hq; exact ⟨a6, r6⟩
  | 7, hq => cases hq; exact ⟨a7, r7⟩
  | 8, hq => cases hq; exact ⟨a8, r8⟩
  | 9, hq => cases hq; exact ⟨a9, r9⟩
  | k + 10, hq => cases hq
