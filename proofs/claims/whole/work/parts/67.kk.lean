/-! What the start gives: the classes, the array classes, the strings, the statics; then hw_kk. -/
theorem lk_S {s : State} {A : Array Value} (hts : ∀ w ∈ lw_tbl, w.before A s = true) : ∀ q ∈ hw_lS, ∃ sa : Nat, vk_R q.1 q.2.1 q.2.2 sa s := by
  intro q hq
  have h := hts _ ((by decide +kernel : ∀ q ∈ hw_lS, Cond.stringRef q.1 q.2.1 q.2.2 ∈ lw_tbl) q hq)
  cases hc : s.vm.findClass q.1 with
  | none => simp [Cond.before, Cond.holds, Cond.value, hc] at h
  | some cur =>
    obtain ⟨_, _, _, a, -, -, -, -, -, he⟩ := Cond.stringRef_spec hc h
    exact ⟨a, vk_R.of h he⟩
theorem li_Jx4a65c : (∀ w ∈ u_ws RJx4a65c TJx4a65c 3, w ∈ lw_tbl) ∧ Cond.instantiable RJx4a65c 3 ∈ lw_tbl := ⟨by decide +kernel, by decide +kernel⟩
theorem li_X0 : (∀ w ∈ u_ws RX0 TX0 7, w ∈ lw_tbl) ∧ Cond.instantiable RX0 7 ∈ lw_tbl := ⟨by decide +kernel, by decide +kernel⟩
theorem li_X1 : (∀ w ∈ u_ws RX1 TX1 3, w ∈ lw_tbl) ∧ Cond.instantiable RX1 3 ∈ lw_tbl := ⟨by decide +kernel, by decide +kernel⟩
theorem li_X2 : (∀ w ∈ u_ws RX2 TX2 13, w ∈ lw_tbl) ∧ Cond.instantiable RX2 13 ∈ lw_tbl := ⟨by decide +kernel, by decide +kernel⟩
theorem li_X3 : (∀ w ∈ u_ws RX3 TX3 6, w ∈ lw_tbl) ∧ Cond.instantiable RX3 6 ∈ lw_tbl := ⟨by decide +kernel, by decide +kernel⟩
theorem li_X4 : (∀ w ∈ u_ws RX4 TX4 3, w ∈ lw_tbl) ∧ Cond.instantiable RX4 3 ∈ lw_tbl := ⟨by decide +kernel, by decide +kernel⟩
theorem li_X5 : (∀ w ∈ u_ws RX5 TX5 9, w ∈ lw_tbl) ∧ Cond.instantiable RX5 9 ∈ lw_tbl := ⟨by decide +kernel, by decide +kernel⟩
theorem li_X6 : (∀ w ∈ u_ws RX6 TX6 6, w ∈ lw_tbl) ∧ Cond.instantiable RX6 6 ∈ lw_tbl := ⟨by decide +kernel, by decide +kernel⟩
theorem li_X7 : (∀ w ∈ u_ws RX7 TX7 5, w ∈ lw_tbl) ∧ Cond.instantiable RX7 5 ∈ lw_tbl := ⟨by decide +kernel, by decide +kernel⟩
theorem li_X8 : (∀ w ∈ u_ws RX8 TX8 9, w ∈ lw_tbl) ∧ Cond.instantiable RX8 9 ∈ lw_tbl := ⟨by decide +kernel, by decide +kernel⟩
theorem li_X9 : (∀ w ∈ u_ws RX9 TX9 5, w ∈ lw_tbl) ∧ Cond.instantiable RX9 5 ∈ lw_tbl := ⟨by decide +kernel, by decide +kernel⟩
theorem li_X10 : (∀ w ∈ u_ws RX10 TX10 1, w ∈ lw_tbl) ∧ Cond.instantiable RX10 1 ∈ lw_tbl := ⟨by decide +kernel, by decide +kernel⟩
theorem li_X11 : (∀ w ∈ u_ws RX11 TX11 6, w ∈ lw_tbl) ∧ Cond.instantiable RX11 6 ∈ lw_tbl := ⟨by decide +kernel, by decide +kernel⟩
theorem lk_cl {s : State} {A : Array Value} (hts : ∀ w ∈ lw_tbl, w.before A s = true) : ∃ G : va_G, ∀ (c : Nat) (q : vw_C), vwCl[c]? = some q → u_Kn s q.1 q.2.1 q.2.2 (G.1 c) (G.2 c) := by
  have h : ∀ (c : Nat) (q : vw_C), vwCl[c]? = some q → ∃ (cC : ClassId) (iS : Nat → Nat), u_Kn s q.1 q.2.1 q.2.2 cC iS := by
    intro c q hq
    match c, hq with
    | 0, hq => cases hq; exact u_known hts li_Jx4a65c.1 (hts _ li_Jx4a65c.2)
    | 1, hq => cases hq; exact u_known hts li_X0.1 (hts _ li_X0.2)
    | 2, hq => cases hq; exact u_known hts li_X1.1 (hts _ li_X1.2)
    | 3, hq => cases hq; exact u_known hts li_X2.1 (hts _ li_X2.2)
    | 4, hq => cases hq; exact u_known hts li_X3.1 (hts _ li_X3.2)
    | 5, hq => cases hq; exact u_known hts li_X4.1 (hts _ li_X4.2)
    | 6, hq => cases hq; exact u_known hts li_X5.1 (hts _ li_X5.2)
    | 7, hq => cases hq; exact u_known hts li_X6.1 (hts _ li_X6.2)
    | 8, hq => cases hq; exact u_known hts li_X7.1 (hts _ li_X7.2)
    | 9, hq => cases hq; exact u_known hts li_X8.1 (hts _ li_X8.2)
    | 10, hq => cases hq; exact u_known hts li_X9.1 (hts _ li_X9.2)
    | 11, hq => cases hq; exact u_known hts li_X10.1 (hts _ li_X10.2)
    | 12, hq => cases hq; exact u_known hts li_X11.1 (hts _ li_X11.2)
    | c + 13, hq => cases hq
  have h2 : ∀ c : Nat, ∃ z : ClassId × (Nat → Nat), ∀ q : vw_C, vwCl[c]? = some q → u_Kn s q.1 q.2.1 q.2.2 z.1 z.2 := by
    intro c
    cases hq : vwCl[c]? with
    | none => exact ⟨(0, fun _ => 0), fun q z => by cases z⟩
    | some q =>
      obtain ⟨a, b, hk⟩ := h c q hq
      exact ⟨(a, b), fun q' z => by cases z; exact hk⟩
  exact ⟨(fun c => (Classical.choose (h2 c)).1, fun c => (Classical.choose (h2 c)).2), fun c q hq => Classical.choose_spec (h2 c) q hq⟩
theorem lk_ar {s : State} {A : Array Value} {ty : FieldType} (h : (Cond.arrayClass ty).before A s = true) : ∃ c : ClassId, ArrOfT s c ty ∧ s.vm.findClass ("[" ++ ty.toString) = some c := by
  obtain ⟨c, k, comp, h1, h2, h3⟩ := Cond.arrayClass_spec h
  exact ⟨c, fun n z => ⟨fun k h => (by cases h), k, h2, comp, h3⟩, h1⟩
theorem lk_ao {s : State} {A : Array Value} {C : String} (h : (Cond.arrayOver (.object C)).before A s = true) : ∃ c : ClassId, ArrOfT s c (.object C) ∧ va_RA s c (.object C) := by
  obtain ⟨comp, c, k, h1, h2, h3, h4, h5⟩ := Cond.arrayOver_spec h
  exact ⟨c, fun n z => ⟨fun k h => (by cases h), k, h3, comp, h4⟩, k, comp, h3, h4, h1, h5⟩
theorem lk_kk {s : State} {A : Array Value} (hts : ∀ w ∈ lw_tbl, w.before A s = true) (hg : (Jvm.Cond.and given_1 narrow_1).before A s = true) : ∃ Z : hw_Z, hw_kk Z s ∧ Z.2.2.1 = s.heap.size := by
  have hs := flat_of_before _ hg
  obtain ⟨G, hG⟩ := lk_cl hts
  obtain ⟨c0, a0, r0⟩ := lk_ar (hts (.arrayClass .int) (by decide +kernel))
  obtain ⟨c1, a1, r1⟩ := lk_ar (hts (.arrayClass .long) (by decide +kernel))
  obtain ⟨c2, a2, r2⟩ := lk_ar (hts (.arrayClass .double) (by decide +kernel))
  obtain ⟨c3, a3, r3⟩ := lk_ao (hts (.arrayOver (.object "MeltPool$Piece")) (by decide +kernel))
  obtain ⟨c4, a4, r4⟩ := lk_ao (hts (.arrayOver (.object "MeltPool$Powder")) (by decide +kernel))
  obtain ⟨c5, a5, r5⟩ := lk_ao (hts (.arrayOver (.object "MeltPool$Machine")) (by decide +kernel))
  obtain ⟨c6, a6, r6⟩ := lk_ao (hts (.arrayOver (.object "MeltPoolModel$Machine")) (by decide +kernel))
  obtain ⟨c7, a7, r7⟩ := lk_ao (hts (.arrayOver (.object "java/lang/Object")) (by decide +kernel))
  have hA : ∀ a : Nat, a < s.heap.size → ¬ s.heap.size ≤ a := fun a h => Nat.not_le.mpr h
  obtain ⟨ea, hev, hT⟩ := va_Tof (A := fun q : Nat => s.heap.size ≤ q) (f := fun _ => .null) (tm := .static "java/util/ArrayList" "DEFAULTCAPACITY_EMPTY_ELEMENTDATA" "[Ljava/lang/Object;") (ty := .object "java/lang/Object") (N := 0) (Nat.le_of_ble_eq_true rfl) (hs _ (by decide +kernel)) (va_eqt (hs _ (by decide +kernel))) (fun j hj => absurd hj (Nat.not_lt_zero j)) hA
  have hZ : va_Z "java/util/ArrayList" "DEFAULTCAPACITY_EMPTY_ELEMENTDATA" "[Ljava/lang/Object;" (.ref ea) (fun q : Nat => s.heap.size ≤ q) s s.heap := va_Zof (hts _ (by decide +kernel)) (hts _ (by decide +kernel)) hev hA
  have hU : vx_Zq Bundle.tN "UNASSIGNED_STACK" Bundle.steD (fun q : Nat => s.heap.size ≤ q) s s.heap := vx_Zqof (hts _ (by decide +kernel)) (hts _ (by decide +kernel)) (hs _ (by decide +kernel)) hA
  have hN : vx_Zq Bundle.tN "SUPPRESSED_SENTINEL" Bundle.listD (fun q : Nat => s.heap.size ≤ q) s s.heap := vx_Zqof (hts _ (by decide +kernel)) (hts _ (by decide +kernel)) (hs _ (by decide +kernel)) hA
  obtain ⟨dA, h0, h1, h2, h3, h4, h5, h6, h7⟩ : ∃ dA : Nat → ClassId, dA 0 = c0 ∧ dA 1 = c1 ∧ dA 2 = c2 ∧ dA 3 = c3 ∧ dA 4 = c4 ∧ dA 5 = c5 ∧ dA 6 = c6 ∧ dA 7 = c7 :=
    ⟨fun k => match k with | 0 => c0 | 1 => c1 | 2 => c2 | 3 => c3 | 4 => c4 | 5 => c5 | 6 => c6 | _ => c7, rfl, rfl, rfl, rfl, rfl, rfl, rfl, rfl⟩
  subst h0; subst h1; subst h2; subst h3; subst h4; subst h5; subst h6; subst h7
  refine ⟨(G, dA, s.heap.size, ea), ⟨⟨hG, ?_⟩, hU, hN, hZ, hT, lk_N hts, lk_C hts, lk_X hg, lk_D hts, lk_F hts, lk_A hts, lk_S hts⟩, rfl⟩
  intro k q hq
  match k, hq with
  | 0, hq => cases hq; exact ⟨a0, r0⟩
  | 1, hq => cases hq; exact ⟨a1, r1⟩
  | 2, hq => cases hq; exact ⟨a2, r2⟩
  | 3, hq => cases hq; exact ⟨a3, r3⟩
  | 4, hq => cases hq; exact ⟨a4, r4⟩
  | 5, hq => cases hq; exact ⟨a5, r5⟩
  | 6, hq => cases hq; exact ⟨a6, r6⟩
  | 7, hq => cases hq; exact ⟨a7, r7⟩
  | k + 8, hq => cases hq
