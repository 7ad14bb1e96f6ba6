/-! The law's first rows: two new halls, two arrays. -/
theorem lw_first {Z : hw_Z} {M4 M12 : hw_M} {ad ae : hp_ad} {q8 q17 q21 : Nat} {e8 : Option va_E} {f : Nat → Int64} {g : Nat → UInt64} {b1 : Nat → Prop} (hp : hp_ok Z b1 M4 ad hs_0 hp_T0) (h8 : M4 q8 = none) (hr : hr_ok Z (fun x => va_up M4 q8 e8 x ≠ none ∧ x ≠ q8) M12 ae hs_0 hr_X0) (hf : ∀ x, va_up M4 q8 e8 x ≠ none → x ≠ q8 → M12 x = va_up M4 q8 e8 x) (h17 : M12 q17 = none) (h21 : va_up M12 q17 (hw_al Z 1 f) q21 = none) : lw_ok Z (va_up (va_up M12 q17 (hw_al Z 1 f)) q21 (hw_ad Z 1 g)) q17 q21 ad ae hs_0 := by
  have n21 : q21 ≠ q17 := fun q => by rw [q, va_up_self] at h21; cases h21
  have h21' : M12 q21 = none := by rw [va_up_ne _ _ n21] at h21; exact h21
  have a4 : ∀ k i, i < hp_n k → M4 (ad k i) ≠ none := fun k i hi => by rw [hp.m k i hi]; exact hp_s Z ad hs_0 hp_T0 hi
  have a8 : ∀ k i, i < hp_n k → ad k i ≠ q8 := fun k i hi q => a4 k i hi (by rw [q]; exact h8)
  have w8 : ∀ k i, i < hp_n k → va_up M4 q8 e8 (ad k i) = M4 (ad k i) := fun k i hi => va_up_ne _ _ (a8 k i hi)
  have e12 : ∀ k i, i < hp_n k → M12 (ad k i) = hp_e Z ad hs_0 hp_T0 k i := fun k i hi => by
    rw [hf _ (by rw [w8 k i hi]; exact a4 k i hi) (a8 k i hi), w8 k i hi]; exact hp.m k i hi
  have n12 : ∀ k i, i < hp_n k → M12 (ad k i) ≠ none := fun k i hi => by rw [e12 k i hi]; exact hp_s Z ad hs_0 hp_T0 hi
  have dis : ∀ k i k' i', i < hp_n k → hr_p hs_0 hr_X0 k' i' → ad k i ≠ ae k' i' := fun k i k' i' hi hi' q => hr.2.2.1 k' i' hi' ⟨by rw [← q, w8 k i hi]; exact a4 k i hi, by rw [← q]; exact a8 k i hi⟩
  have top : ∀ x, M12 x ≠ none → va_up (va_up M12 q17 (hw_al Z 1 f)) q21 (hw_ad Z 1 g) x = M12 x ∧ x ≠ q17 ∧ x ≠ q21 := fun x hx => by
    have x1 : x ≠ q17 := fun q => hx (by rw [q]; exact h17)
    have x2 : x ≠ q21 := fun q => hx (by rw [q]; exact h21')
    exact ⟨by rw [va_up_ne _ _ x2, va_up_ne _ _ x1], x1, x2⟩
  refine ⟨hp_T0, hr_X0, f, g, ⟨⟨fun k i hi => ?_, hp.2.1, fun k i hi hb => ?_, hp.2.2.2⟩, ⟨fun k i hi => ?_, hr.2.1, fun k i hi hb => ?_, hr.2.2.2⟩⟩, hv_0, ?_, va_up_self _ _ _⟩
  · rw [(top _ (n12 k i hi)).1]; exact e12 k i hi
  · rcases hb with q | q | ⟨k', i', hi', q⟩
    · exact (top _ (n12 k i hi)).2.1 q
    · exact (top _ (n12 k i hi)).2.2 q
    · exact dis k i k' i' hi hi' q
  · rw [(top _ (hr.a k i hi)).1]; exact hr.m k i hi
  · rcases hb with q | q | ⟨k', i', hi', q⟩
    · exact (top _ (hr.a k i hi)).2.1 q
    · exact (top _ (hr.a k i hi)).2.2 q
    · exact dis k' i' k i hi' hi q.symm
  · rw [va_up_ne _ _ (Ne.symm n21)]; exact va_up_self _ _ _
theorem fn_L_8 : hw_FN RL 8 6 9 [.null, .null, .null, .int 0, .int 0, .int 0, .int 0, .null, .null] := ⟨RX5, TX5, tyX5, rfl, iw_X5, tyX5_ok, (hw_win (w := .classLink RL 8 RX5) (by decide +kernel) (by decide +kernel)), (hw_win (w := .instantiable RX5 9) (by decide +kernel) (by decide +kernel)), (hw_win (w := .initialized RX5) (by decide +kernel) (by decide +kernel)), fun j hj => by rcases (show j = 0 ∨ j = 1 ∨ j = 2 ∨ j = 3 ∨ j = 4 ∨ j = 5 ∨ j = 6 ∨ j = 7 ∨ j = 8 by omega) with rfl | rfl | rfl | rfl | rfl | rfl | rfl | rfl | rfl <;> rfl⟩
theorem cb_X5_init (own : String) (index : Nat) : hw_CB own index yX5_init cX5_init 2 none 0 := ⟨⟨by decide +kernel, by decide +kernel, by decide +kernel⟩, (hw_win (w := .code yX5_init cX5_init 2 none) (by decide +kernel) (by decide +kernel)), (hw_win (w := .initialized yX5_init.cls) (by decide +kernel) (by decide +kernel))⟩
theorem ci_L_105 : hw_CI RL 105 yX5_init cX5_init 2 0 := ⟨cb_X5_init _ _, (hw_win (w := .methodLink RL 105 yX5_init) (by decide +kernel) (by decide +kernel)), (hw_win (w := .instanceMethod yX5_init) (by decide +kernel) (by decide +kernel)), rfl⟩
theorem fn_L_106 : hw_FN RL 106 12 6 [.int 0, .int 0, .int 0, .null, .null, .null] := ⟨RX11, TX11, tyX11, rfl, iw_X11, tyX11_ok, (hw_win (w := .classLink RL 106 RX11) (by decide +kernel) (by decide +kernel)), (hw_win (w := .instantiable RX11 6) (by decide +kernel) (by decide +kernel)), (hw_win (w := .initialized RX11) (by decide +kernel) (by decide +kernel)), fun j hj => by rcases (show j = 0 ∨ j = 1 ∨ j = 2 ∨ j = 3 ∨ j = 4 ∨ j = 5 by omega) with rfl | rfl | rfl | rfl | rfl | rfl <;> rfl⟩
theorem cb_X11_init (own : String) (index : Nat) : hw_CB own index yX11_init cX11_init 1 none 0 := ⟨⟨by decide +kernel, by decide +kernel, by decide +kernel⟩, (hw_win (w := .code yX11_init cX11_init 1 none) (by decide +kernel) (by decide +kernel)), (hw_win (w := .initialized yX11_init.cls) (by decide +kernel) (by decide +kernel))⟩
theorem ci_L_108 : hw_CI RL 108 yX11_init cX11_init 1 0 := ⟨cb_X11_init _ _, (hw_win (w := .methodLink RL 108 yX11_init) (by decide +kernel) (by decide +kernel)), (hw_win (w := .instanceMethod yX11_init) (by decide +kernel) (by decide +kernel)), rfl⟩
set_option maxHeartbeats 4000000 in
set_option maxRecDepth 100000 in
theorem lw_begin {p : Program} {l : Launch} {e : Env} {s : State} {m : MethodId} {below : List Frame} {meth : Method} {c : Code} {Q : State → Prop} {Z : hw_Z} {b L : Nat} {xs : Nat → Int32} {M : hw_M} {H : Heap} {locs : List Loc} {ls : Array Slot} (hst : l.stackTraces = false) (C : lw_cx p s m c Z b L xs)
    (KE : ∀ (M : hw_M) (H : Heap) (locs : List Loc) (cells slots : Nat) (ls : Array Slot), hw_iv Z s M H locs → cells ≤ 396424 → slots ≤ 7906833 → W p l e room_1 s m #[Value.ref b] below meth c H locs cells slots Q (F0 m 2019 ls [])) (hI : hw_iv Z s M H locs) (hl : lv_has ls 9 [(0, .ref b)]) : W p l e room_1 s m #[Value.ref b] below meth c H locs 0 0 Q (F0 m 0 ls []) := by
  have C0 := C
  obtain ⟨hx, hb, hml, hown, hts, hk, hX, hbl, hbA, hL⟩ := C
  refine hw_new hx hb hts hown hk hI fn_L_8 (Nat.le_of_ble_eq_true rfl) (Nat.le_of_ble_eq_true rfl) dL_law_0 (fun q0 H hq0 hI => ?_)
  refine lv_dup hx hb dL_law_3 rfl ?_
  refine hw_cv hI (hw_rI hx hb hml hown hts hk hI (m_X5_init l Z (va_up M q0 (hw_ob 6 [.null, .null, .null, .int 0, .int 0, .int 0, .int 0, .null, .null])) q0 (va_up_self _ _ _)) ci_L_105 ⟨rfl, rfl⟩ ⟨(Nat.le_of_ble_eq_true rfl), (Nat.le_of_ble_eq_true rfl)⟩ rfl hl.1 rfl (Nat.le_of_ble_eq_true rfl) ⟨(Nat.le_of_ble_eq_true rfl), (Nat.le_of_ble_eq_true rfl)⟩ dL_law_4) (fun M4 H locs hR hI => ?_)
  obtain ⟨ad, ea, hp, hf4⟩ := hR
  refine lv_astore_n (lv' := [(1, .ref q0), (0, .ref b)]) hx hb dL_law_7 rfl hl (by decide) rfl (fun ls hl => ?_)
  refine hw_new hx hb hts hown hk hI fn_L_106 (Nat.le_of_ble_eq_true rfl) (Nat.le_of_ble_eq_true rfl) dL_law_8 (fun q8 H hq8 hI => ?_)
  refine lv_dup hx hb dL_law_11 rfl ?_
  refine hw_cv hI (hw_rI hx hb hml hown hts hk hI (m_X11_init l Z (va_up M4 q8 (hw_ob 12 [.int 0, .int 0, .int 0, .null, .null, .null])) q8 (va_up_self _ _ _)) ci_L_108 ⟨rfl, rfl⟩ ⟨(Nat.le_of_ble_eq_true rfl), (Nat.le_of_ble_eq_true rfl)⟩ rfl hl.1 rfl (Nat.le_of_ble_eq_true rfl) ⟨(Nat.le_of_ble_eq_true rfl), (Nat.le_of_ble_eq_true rfl)⟩ dL_law_12) (fun M12 H locs hR hI => ?_)
  obtain ⟨ae, ee, hr, hf12⟩ := hR
  refine lv_astore_n (lv' := [(2, .ref q8), (1, .ref q0), (0, .ref b)]) hx hb dL_law_15 rfl hl (by decide) rfl (fun ls hl => ?_)
  refine lv_iconst (v := nI 1) hx hb dL_law_16 (by decide) ?_
  refine hw_newa (a0 := (1, .inr (.inl (fun _ => 0)))) hx hb hts hk hI (atype := .long) (hw_win (w := .arrayClass .long) (by decide +kernel) (by decide +kernel)) rfl 1 rfl (fun _ h => by cases h) (fun _ => rfl) rfl (by decide) (by decide) (Nat.le_of_ble_eq_true rfl) (Nat.le_of_ble_eq_true rfl) dL_law_17 (fun q17 H hq17 hI => ?_)
  refine lv_astore_n (lv' := [(3, .ref q17), (2, .ref q8), (1, .ref q0), (0, .ref b)]) hx hb dL_law_19 rfl hl (by decide) rfl (fun ls hl => ?_)
  refine lv_iconst (v := nI 1) hx hb dL_law_20 (by decide) ?_
  refine hw_newa (a0 := (1, .inr (.inr (.inr (.inl (fun _ => 0)))))) hx hb hts hk hI (atype := .double) (hw_win (w := .arrayClass .double) (by decide +kernel) (by decide +kernel)) rfl 2 rfl (fun _ h => by cases h) (fun _ => rfl) rfl (by decide) (by decide) (Nat.le_of_ble_eq_true rfl) (Nat.le_of_ble_eq_true rfl) dL_law_21 (fun q21 H hq21 hI => ?_)
  refine lv_astore (lv' := [(4, .ref q21), (3, .ref q17), (2, .ref q8), (1, .ref q0), (0, .ref b)]) hx hb dL_law_23 hl (by decide) rfl (fun ls hl => ?_)
  refine lv_iconst (v := nI 0) hx hb dL_law_25 (by decide) ?_
  refine lv_istore (lv' := [(5, .int (nI 0)), (4, .ref q21), (3, .ref q17), (2, .ref q8), (1, .ref q0), (0, .ref b)]) hx hb dL_law_26 hl (by decide) rfl (fun ls hl => ?_)
  have hI9 := hI
  have hl9 := hl
  subst ea
  subst ee
  exact lw_loop hst C0 KE 512 0 _ _ _ ae hs_0 _ _ _ (by omega) (by omega) hI9 rfl (lw_first hp hq8 hr hf12 hq17 hq21) (lv_sub hl9 [5, 4, 3, 2, 1, 0] rfl) (Nat.le_of_ble_eq_true rfl) (Nat.le_of_ble_eq_true rfl)
