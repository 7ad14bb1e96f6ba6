theorem cv_L_79 : hw_CV RL 79 yX5_ofMachine cX5_ofMachine 4 (some .int) 2 := ⟨cb_X5_ofMachine _ _, (hw_win (w := .methodLink RL 79 yX5_ofMachine) (by decide +kernel) (by decide +kernel)), (hw_win (w := .instanceMethod yX5_ofMachine) (by decide +kernel) (by decide +kernel)), (hw_win (w := .selects yX5_ofMachine.cls yX5_ofMachine yX5_ofMachine) (by decide +kernel) (by decide +kernel))⟩
theorem cb_X5_load (own : String) (index : Nat) : hw_CB own index yX5_load cX5_load 5 (some .int) 2 := ⟨⟨by decide +kernel, by decide +kernel, by decide +kernel⟩, (hw_win (w := .code yX5_load cX5_load 5 (some .int)) (by decide +kernel) (by decide +kernel)), (hw_win (w := .initialized yX5_load.cls) (by decide +kernel) (by decide +kernel))⟩
theorem cv_L_85 : hw_CV RL 85 yX5_load cX5_load 5 (some .int) 2 := ⟨cb_X5_load _ _, (hw_win (w := .methodLink RL 85 yX5_load) (by decide +kernel) (by decide +kernel)), (hw_win (w := .instanceMethod yX5_load) (by decide +kernel) (by decide +kernel)), (hw_win (w := .selects yX5_load.cls yX5_load yX5_load) (by decide +kernel) (by decide +kernel))⟩
theorem cb_X5_unload (own : String) (index : Nat) : hw_CB own index yX5_unload cX5_unload 4 (some .int) 1 := ⟨⟨by decide +kernel, by decide +kernel, by decide +kernel⟩, (hw_win (w := .code yX5_unload cX5_unload 4 (some .int)) (by decide +kernel) (by decide +kernel)), (hw_win (w := .initialized yX5_unload.cls) (by decide +kernel) (by decide +kernel))⟩
theorem cv_L_82 : hw_CV RL 82 yX5_unload cX5_unload 4 (some .int) 1 := ⟨cb_X5_unload _ _, (hw_win (w := .methodLink RL 82 yX5_unload) (by decide +kernel) (by decide +kernel)), (hw_win (w := .instanceMethod yX5_unload) (by decide +kernel) (by decide +kernel)), (hw_win (w := .selects yX5_unload.cls yX5_unload yX5_unload) (by decide +kernel) (by decide +kernel))⟩
set_option maxHeartbeats 4000000 in
set_option maxRecDepth 100000 in
theorem sg_D2a {p : Program} {l : Launch} {e : Env} {s : State} {m : MethodId} {below : List Frame} {meth : Method} {c : Code} {H : Heap} {locs : List Loc} {cells slots : Nat} {Q : State → Prop} {ls : Array Slot} {Z : hw_Z} {M : hw_M} {j G : Nat} {i h9 w b al y t d q12 q13 q14 : Nat} {ad : hp_ad} {S : hs_S} {C f12 : Nat → Int64} {sp ff : Nat → Int32} {v3 v4 v5 v6 v7 v8 v9 v10 : Value} (hst : l.stackTraces = false) (CX : lw_cx p s m c Z) (hI : hw_iv Z s M H locs) (ht : M t = hw_ob 0 [.ref (ad 0 0), .ref Z.2.2.2, .int (nI d), v3, v4, v5, v6, v7, v8, v9, v10]) (e12 : M q12 = hw_al Z 8 f12) (e13 : M q13 = hw_ai Z 3 sp) (e14 : M q14 = hw_ai Z 3 ff) (hh : lh Z M ad S) (b12 : hq_b ad q12) (b13 : hq_b ad q13) (b14 : hq_b ad q14) (n34 : q13 ≠ q14) (hd : d ≤ 300) (hj2 : j < 2) (hj : lj y (y + 1 + 1) y S) (hG : 1024 ≤ G ∧ G ≤ 4000) (hC : hs_C S (y + 1) = C) (h0 : hs_P S (y + 1) 0 = 0) (hy3 : y < 3) (hf2 : lj_f G S) (hl : lv_has ls 19 [(0, .ref Z.2.2.2), (1, .int (nI i)), (2, .ref t), (3, .ref (ad 0 0)), (9, .int (nI h9)), (10, .int (nI w)), (11, .int (nI b)), (12, .ref q12), (13, .ref q13), (14, .ref q14), (15, .int (nI al)), (16, .int (nI y))]) (hc9 : cells + 3000 ≤ 600104) (hs9 : slots + 60000 ≤ 7301314)
    (K : ∀ (M1 : hw_M) (H1 : Heap) (locs1 : List Loc) (cells1 slots1 : Nat) (ls1 : Array Slot) (S4 : hs_S), hw_iv Z s M1 H1 locs1 → (lj y (y + 1 + 1) (y + 1) S4) → (lj_m G j S4) → (hs_C S4 (y + 1) = C) → (hs_P S4 (y + 1) 0 = 0) → (M1 t = hw_ob 0 [.ref (ad 0 0), .ref Z.2.2.2, .int (nI d), v3, v4, v5, v6, v7, v8, v9, v10]) → (M1 q12 = hw_al Z 8 f12) → (M1 q13 = hw_ai Z 3 sp) → (M1 q14 = hw_ai Z 3 ff) → (lh Z M1 ad S4) → lv_has ls1 19 [(0, .ref Z.2.2.2), (1, .int (nI i)), (2, .ref t), (3, .ref (ad 0 0)), (9, .int (nI h9)), (10, .int (nI w)), (11, .int (nI b)), (12, .ref q12), (13, .ref q13), (14, .ref q14), (15, .int (nI al)), (16, .int (nI y)), (17, .int (nI j)), (18, .int (nI (1 - j)))] → cells1 ≤ cells + 3000 → slots1 ≤ slots + 60000 → W p l e room_1 s m #[Value.ref Z.2.2.2] below meth c H1 locs1 cells1 slots1 Q (F0 m 484 ls1 [])) :
    W p l e room_1 s m #[Value.ref Z.2.2.2] below meth c H locs cells slots Q (F0 m 431 ls [.int (nI j)]) := by
  obtain ⟨hx, hb, hml, hown, hts, hk⟩ := CX
  have hbt : hq_b ad t := lp_0 hh ht ⟨_, rfl⟩
  refine lv_istore (lv' := [(17, .int (nI j)), (0, .ref Z.2.2.2), (1, .int (nI i)), (2, .ref t), (3, .ref (ad 0 0)), (9, .int (nI h9)), (10, .int (nI w)), (11, .int (nI b)), (12, .ref q12), (13, .ref q13), (14, .ref q14), (15, .int (nI al)), (16, .int (nI y))]) hx hb dL_law_431 hl (by decide) rfl (fun ls hl => ?_)
  refine lv_iconst (v := nI 1) hx hb dL_law_433 (by decide) ?_
  refine lv_iload hx hb dL_law_434 (lv_at hl 0 rfl) ?_
  refine lv_isub hx hb dL_law_436 ?_
  refine hw_ti (pk_sub (by omega)) ?_
  refine lv_istore (lv' := [(18, .int (nI (1 - j))), (17, .int (nI j)), (0, .ref Z.2.2.2), (1, .int (nI i)), (2, .ref t), (3, .ref (ad 0 0)), (9, .int (nI h9)), (10, .int (nI w)), (11, .int (nI b)), (12, .ref q12), (13, .ref q13), (14, .ref q14), (15, .int (nI al)), (16, .int (nI y))]) hx hb dL_law_437 hl (by decide) rfl (fun ls hl => ?_)
  refine lv_aload_n hx hb dL_law_439 rfl (lv_at hl 5 rfl) ?_
  refine lv_iload hx hb dL_law_440 (lv_at hl 1 rfl) ?_
  refine lv_iconst (v := nI 1) hx hb dL_law_442 (by decide) ?_
  have lh443 : lh Z (M) ad S := hh
  obtain ⟨T443, hP443⟩ := lh443
  have e443 : (M) (ad 0 0) = hp_e0 Z ad S T443 0 := hP443.m 0 0 (by decide)
  refine hw_ci hI (hw_rV hx hb hml hown hts hk hI (m_X5_ofMachine_k l Z M ad S T443 (hq_b ad) j 1 hP443 hj.b hj2 (by decide)) cv_L_79 e443 rfl rfl ⟨rfl, rfl⟩ ⟨(by first | exact Nat.le_of_ble_eq_true rfl | (show _ ≤ 600104; omega) | (show _ ≤ 7301314; omega) | omega), (by first | exact Nat.le_of_ble_eq_true rfl | (show _ ≤ 600104; omega) | (show _ ≤ 7301314; omega) | omega)⟩ rfl hl.1 rfl (by first | exact Nat.le_of_ble_eq_true rfl | (show _ ≤ 600104; omega) | (show _ ≤ 7301314; omega) | omega) ⟨(by first | exact Nat.le_of_ble_eq_true rfl | (show _ ≤ 600104; omega) | (show _ ≤ 7301314; omega) | omega), (by first | exact Nat.le_of_ble_eq_true rfl | (show _ ≤ 600104; omega) | (show _ ≤ 7301314; omega) | omega)⟩ dL_law_443) (fun r443 M443 H locs hR hI => ?_)
  obtain ⟨rfl, rfl⟩ := hR
  refine hw_ti (lj_fm hf2 hj2) ?_
  refine lv_if_ge (tgt := 484) hx hb dL_law_446 (by decide) (fun hc => absurd hc (by decide)) (fun _ => ?_)
  refine lv_aload_n hx hb dL_law_449 rfl (lv_at hl 5 rfl) ?_
  refine lv_iload hx hb dL_law_450 (lv_at hl 0 rfl) ?_
  refine lv_iconst (v := nI 1) hx hb dL_law_452 (by decide) ?_
  have lh453 : lh Z (M) ad S := hh
  obtain ⟨T453, hP453⟩ := lh453
  have e453 : (M) (ad 0 0) = hp_e0 Z ad S T453 0 := hP453.m 0 0 (by decide)
  refine hw_ci hI (hw_rV hx hb hml hown hts hk hI (m_X5_ofMachine_k l Z M ad S T453 (hq_b ad) (1 - j) 1 hP453 hj.b (show 1 - j < 2 by omega) (by decide)) cv_L_79 e453 rfl rfl ⟨rfl, rfl⟩ ⟨(by first | exact Nat.le_of_ble_eq_true rfl | (show _ ≤ 600104; omega) | (show _ ≤ 7301314; omega) | omega), (by first | exact Nat.le_of_ble_eq_true rfl | (show _ ≤ 600104; omega) | (show _ ≤ 7301314; omega) | omega)⟩ rfl hl.1 rfl (by first | exact Nat.le_of_ble_eq_true rfl | (show _ ≤ 600104; omega) | (show _ ≤ 7301314; omega) | omega) ⟨(by first | exact Nat.le_of_ble_eq_true rfl | (show _ ≤ 600104; omega) | (show _ ≤ 7301314; omega) | omega), (by first | exact Nat.le_of_ble_eq_true rfl | (show _ ≤ 600104; omega) | (show _ ≤ 7301314; omega) | omega)⟩ dL_law_453) (fun r453 M453 H locs hR hI => ?_)
  obtain ⟨rfl, rfl⟩ := hR
  refine hw_ti (lj_fm hf2 (show 1 - j < 2 by omega)) ?_
  refine lv_if_lt (tgt := 471) hx hb dL_law_456 (by decide) (fun _ => ?_) (fun hc => absurd (by decide) hc)
  refine lv_aload_n hx hb dL_law_471 rfl (lv_at hl 5 rfl) ?_
  refine lv_iload hx hb dL_law_472 (lv_at hl 1 rfl) ?_
  refine lv_iconst (v := nI 0) hx hb dL_law_474 (by decide) ?_
  have lh475 : lh Z (M) ad S := hh
  obtain ⟨T475, hP475⟩ := lh475
  have e475 : (M) (ad 0 0) = hp_e0 Z ad S T475 0 := hP475.m 0 0 (by decide)
  refine hw_yi hI (hw_xV hx hb hml hown hts hk hI (m_X5_load l hst Z M ad S T475 (hq_b ad) (nI j) (nI 0) hP475 hj.b) cv_L_85 e475 rfl rfl ⟨rfl, rfl⟩ ⟨(by first | exact Nat.le_of_ble_eq_true rfl | (show _ ≤ 600104; omega) | (show _ ≤ 7301314; omega) | omega), (by first | exact Nat.le_of_ble_eq_true rfl | (show _ ≤ 600104; omega) | (show _ ≤ 7301314; omega) | omega)⟩ rfl hl.1 rfl (by first | exact Nat.le_of_ble_eq_true rfl | (show _ ≤ 600104; omega) | (show _ ≤ 7301314; omega) | omega) ⟨(by first | exact Nat.le_of_ble_eq_true rfl | (show _ ≤ 600104; omega) | (show _ ≤ 7301314; omega) | omega), (by first | exact Nat.le_of_ble_eq_true rfl | (show _ ≤ 600104; omega) | (show _ ≤ 7301314; omega) | omega)⟩ dL_law_475) (fun _ _ _ _ _ _ _ hX9 _ _ _ => lx (ls_load hj (by omega) hj2 hf2 ⟨by omega, hG.2⟩) hX9) (fun r475 M475 H locs hR hI => ?_)
  obtain ⟨rfl, hC475, hF475⟩ := lr (ls_load hj (by omega) hj2 hf2 ⟨by omega, hG.2⟩) hR
  have b475_t : hq_b ad t := hbt
  have f475_t : M475 t = hw_ob 0 [.ref (ad 0 0), .ref Z.2.2.2, .int (nI d), v3, v4, v5, v6, v7, v8, v9, v10] := (hF475 _ b475_t).trans ht
  have b475_q12 : hq_b ad q12 := b12
  have f475_q12 : M475 q12 = hw_al Z 8 f12 := (hF475 _ b475_q12).trans e12
  have b475_q13 : hq_b ad q13 := b13
  have f475_q13 : M475 q13 = hw_ai Z 3 sp := (hF475 _ b475_q13).trans e13
  have b475_q14 : hq_b ad q14 := b14
  have f475_q14 : M475 q14 = hw_ai Z 3 ff := (hF475 _ b475_q14).trans e14
  refine lv_iconst (v := nI 1) hx hb dL_law_478 (by decide) ?_
  refine lv_icmp_ge (tgt := 484) hx hb dL_law_479 (by decide) (fun _ => ?_) (fun hc => absurd (nI_le (by omega) (by omega)) hc)
  exact K _ _ _ _ _ _ (ls_L S j) hI (lj_u (lj_load hj (by omega) hj2 hf2 ⟨by omega, hG.2⟩).1 (by omega)) (lj_load hj (by omega) hj2 hf2 ⟨by omega, hG.2⟩).2 hC h0 f475_t f475_q12 f475_q13 f475_q14 hC475 (lv_sub hl [2, 3, 4, 5, 6, 7, 8, 9, 10, 11, 12, 13, 1, 0] rfl) (by omega) (by omega)

set_option maxHeartbeats 4000000 in
set_option maxRecDepth 100000 in
theorem sg_D2b {p : Program} {l : Launch} {e : Env} {s : State} {m : MethodId} {below : List Frame} {meth : Method} {c : Code} {H : Heap} {locs : List Loc} {cells slots : Nat} {Q : State → Prop} {ls : Array Slot} {Z : hw_Z} {M : hw_M} {j G : Nat} {i h9 w b al y t d q12 q13 q14 : Nat} {ad : hp_ad} {S : hs_S} {C f12 : Nat → Int64} {sp ff : Nat → Int32} {v3 v4 v5 v6 v7 v8 v9 v10 : Value} (hst : l.stackTraces = false) (CX : lw_cx p s m c Z) (hI : hw_iv Z s M H locs) (ht : M t = hw_ob 0 [.ref (ad 0 0), .ref Z.2.2.2, .int (nI d), v3, v4, v5, v6, v7, v8, v9, v10]) (e12 : M q12 = hw_al Z 8 f12) (e13 : M q13 = hw_ai Z 3 sp) (e14 : M q14 = hw_ai Z 3 ff) (hh : lh Z M ad S) (b12 : hq_b ad q12) (b13 : hq_b ad q13) (b14 : hq_b ad q14) (n34 : q13 ≠ q14) (hd : d ≤ 300) (hj2 : j < 2) (hj : lj y (y + 1 + 1) y S) (hG : 1024 ≤ G ∧ G ≤ 4000) (hC : hs_C S (y + 1) = C) (h0 : hs_P S (y + 1) 0 = 0) (hy3 : y < 3) (hm2 : lj_m G j S) (hl : lv_has ls 19 [(0, .ref Z.2.2.2), (1, .int (nI i)), (2, .ref t), (3, .ref (ad 0 0)), (9, .int (nI h9)), (10, .int (nI w)), (11, .int (nI b)), (12, .ref q12), (13, .ref q13), (14, .ref q14), (15, .int (nI al)), (16, .int (nI y))]) (hc9 : cells + 3000 ≤ 600104) (hs9 : slots + 60000 ≤ 7301314)
    (K : ∀ (M1 : hw_M) (H1 : Heap) (locs1 : List Loc) (cells1 slots1 : Nat) (ls1 : Array Slot) (S4 : hs_S), hw_iv Z s M1 H1 locs1 → (lj y (y + 1 + 1) (y + 1) S4) → (lj_m G j S4) → (hs_C S4 (y + 1) = C) → (hs_P S4 (y + 1) 0 = 0) → (M1 t = hw_ob 0 [.ref (ad 0 0), .ref Z.2.2.2, .int (nI d), v3, v4, v5, v6, v7, v8, v9, v10]) → (M1 q12 = hw_al Z 8 f12) → (M1 q13 = hw_ai Z 3 sp) → (M1 q14 = hw_ai Z 3 ff) → (lh Z M1 ad S4) → lv_has ls1 19 [(0, .ref Z.2.2.2), (1, .int (nI i)), (2, .ref t), (3, .ref (ad 0 0)), (9, .int (nI h9)), (10, .int (nI w)), (11, .int (nI b)), (12, .ref q12), (13, .ref q13), (14, .ref q14), (15, .int (nI al)), (16, .int (nI y)), (17, .int (nI j)), (18, .int (nI (1 - j)))] → cells1 ≤ cells + 3000 → slots1 ≤ slots + 60000 → W p l e room_1 s m #[Value.ref Z.2.2.2] below meth c H1 locs1 cells1 slots1 Q (F0 m 484 ls1 [])) :
    W p l e room_1 s m #[Value.ref Z.2.2.2] below meth c H locs cells slots Q (F0 m 431 ls [.int (nI j)]) := by
  obtain ⟨hx, hb, hml, hown, hts, hk⟩ := CX
  have hbt : hq_b ad t := lp_0 hh ht ⟨_, rfl⟩
  refine lv_istore (lv' := [(17, .int (nI j)), (0, .ref Z.2.2.2), (1, .int (nI i)), (2, .ref t), (3, .ref (ad 0 0)), (9, .int (nI h9)), (10, .int (nI w)), (11, .int (nI b)), (12, .ref q12), (13, .ref q13), (14, .ref q14), (15, .int (nI al)), (16, .int (nI y))]) hx hb dL_law_431 hl (by decide) rfl (fun ls hl => ?_)
  refine lv_iconst (v := nI 1) hx hb dL_law_433 (by decide) ?_
  refine lv_iload hx hb dL_law_434 (lv_at hl 0 rfl) ?_
  refine lv_isub hx hb dL_law_436 ?_
  refine hw_ti (pk_sub (by omega)) ?_
  refine lv_istore (lv' := [(18, .int (nI (1 - j))), (17, .int (nI j)), (0, .ref Z.2.2.2), (1, .int (nI i)), (2, .ref t), (3, .ref (ad 0 0)), (9, .int (nI h9)), (10, .int (nI w)), (11, .int (nI b)), (12, .ref q12), (13, .ref q13), (14, .ref q14), (15, .int (nI al)), (16, .int (nI y))]) hx hb dL_law_437 hl (by decide) rfl (fun ls hl => ?_)
  refine lv_aload_n hx hb dL_law_439 rfl (lv_at hl 5 rfl) ?_
  refine lv_iload hx hb dL_law_440 (lv_at hl 1 rfl) ?_
  refine lv_iconst (v := nI 1) hx hb dL_law_442 (by decide) ?_
  have lh443 : lh Z (M) ad S := hh
  obtain ⟨T443, hP443⟩ := lh443
  have e443 : (M) (ad 0 0) = hp_e0 Z ad S T443 0 := hP443.m 0 0 (by decide)
  refine hw_ci hI (hw_rV hx hb hml hown hts hk hI (m_X5_ofMachine_k l Z M ad S T443 (hq_b ad) j 1 hP443 hj.b hj2 (by decide)) cv_L_79 e443 rfl rfl ⟨rfl, rfl⟩ ⟨(by first | exact Nat.le_of_ble_eq_true rfl | (show _ ≤ 600104; omega) | (show _ ≤ 7301314; omega) | omega), (by first | exact Nat.le_of_ble_eq_true rfl | (show _ ≤ 600104; omega) | (show _ ≤ 7301314; omega) | omega)⟩ rfl hl.1 rfl (by first | exact Nat.le_of_ble_eq_true rfl | (show _ ≤ 600104; omega) | (show _ ≤ 7301314; omega) | omega) ⟨(by first | exact Nat.le_of_ble_eq_true rfl | (show _ ≤ 600104; omega) | (show _ ≤ 7301314; omega) | omega), (by first | exact Nat.le_of_ble_eq_true rfl | (show _ ≤ 600104; omega) | (show _ ≤ 7301314; omega) | omega)⟩ dL_law_443) (fun r443 M443 H locs hR hI => ?_)
  obtain ⟨rfl, rfl⟩ := hR
  refine hw_ti hm2.2.1 ?_
  refine lv_if_ge (tgt := 484) hx hb dL_law_446 (by decide) (fun _ => ?_) (fun hc => absurd (by decide) hc)
  exact K _ _ _ _ _ _ S hI (lj_u hj (by omega)) hm2 hC h0 ht e12 e13 e14 hh (lv_sub hl [2, 3, 4, 5, 6, 7, 8, 9, 10, 11, 12, 13, 1, 0] rfl) (by omega) (by omega)

set_option maxHeartbeats 4000000 in
set_option maxRecDepth 100000 in
theorem sg_D2c {p : Program} {l : Launch} {e : Env} {s : State} {m : MethodId} {below : List Frame} {meth : Method} {c : Code} {H : Heap} {locs : List Loc} {cells slots : Nat} {Q : State → Prop} {ls : Array Slot} {Z : hw_Z} {M : hw_M} {j G : Nat} {i h9 w b al y t d q12 q13 q14 : Nat} {ad : hp_ad} {S : hs_S} {C f12 : Nat → Int64} {sp ff : Nat → Int32} {v3 v4 v5 v6 v7 v8 v9 v10 : Value} (hst : l.stackTraces = false) (CX : lw_cx p s m c Z) (hI : hw_iv Z s M H locs) (ht : M t = hw_ob 0 [.ref (ad 0 0), .ref Z.2.2.2, .int (nI d), v3, v4, v5, v6, v7, v8, v9, v10]) (e12 : M q12 = hw_al Z 8 f12) (e13 : M q13 = hw_ai Z 3 sp) (e14 : M q14 = hw_ai Z 3 ff) (hh : lh Z M ad S) (b12 : hq_b ad q12) (b13 : hq_b ad q13) (b14 : hq_b ad q14) (n34 : q13 ≠ q14) (hd : d ≤ 300) (hj2 : j < 2) (hj : lj y (y + 1 + 1) y S) (hG : 1024 ≤ G ∧ G ≤ 4000) (hC : hs_C S (y + 1) = C) (h0 : hs_P S (y + 1) 0 = 0) (hy3 : y < 3) (hm2 : lj_m G (1 - j) S) (hl : lv_has ls 19 [(0, .ref Z.2.2.2), (1, .int (nI i)), (2, .ref t), (3, .ref (ad 0 0)), (9, .int (nI h9)), (10, .int (nI w)), (11, .int (nI b)), (12, .ref q12), (13, .ref q13), (14, .ref q14), (15, .int (nI al)), (16, .int (nI y))]) (hc9 : cells + 3000 ≤ 600104) (hs9 : slots + 60000 ≤ 7301314)
    (K : ∀ (M1 : hw_M) (H1 : Heap) (locs1 : List Loc) (cells1 slots1 : Nat) (ls1 : Array Slot) (S4 : hs_S), hw_iv Z s M1 H1 locs1 → (lj y (y + 1 + 1) (y + 1) S4) → (lj_m G j S4) → (hs_C S4 (y + 1) = C) → (hs_P S4 (y + 1) 0 = 0) → (M1 t = hw_ob 0 [.ref (ad 0 0), .ref Z.2.2.2, .int (nI d), v3, v4, v5, v6, v7, v8, v9, v10]) → (M1 q12 = hw_al Z 8 f12) → (M1 q13 = hw_ai Z 3 sp) → (M1 q14 = hw_ai Z 3 ff) → (lh Z M1 ad S4) → lv_has ls1 19 [(0, .ref Z.2.2.2), (1, .int (nI i)), (2, .ref t), (3, .ref (ad 0 0)), (9, .int (nI h9)), (10, .int (nI w)), (11, .int (nI b)), (12, .ref q12), (13, .ref q13), (14, .ref q14), (15, .int (nI al)), (16, .int (nI y)), (17, .int (nI j)), (18, .int (nI (1 - j)))] → cells1 ≤ cells + 3000 → slots1 ≤ slots + 60000 → W p l e room_1 s m #[Value.ref Z.2.2.2] below meth c H1 locs1 cells1 slots1 Q (F0 m 484 ls1 [])) :
    W p l e room_1 s m #[Value.ref Z.2.2.2] below meth c H locs cells slots Q (F0 m 431 ls [.int (nI j)]) := by
  obtain ⟨hx, hb, hml, hown, hts, hk⟩ := CX
  have hbt : hq_b ad t := lp_0 hh ht ⟨_, rfl⟩
  obtain ⟨hu1, hu2⟩ := lj_unload hj (show 1 - j < 2 by omega) hm2
  refine lv_istore (lv' := [(17, .int (nI j)), (0, .ref Z.2.2.2), (1, .int (nI i)), (2, .ref t), (3, .ref (ad 0 0)), (9, .int (nI h9)), (10, .int (nI w)), (11, .int (nI b)), (12, .ref q12), (13, .ref q13), (14, .ref q14), (15, .int (nI al)), (16, .int (nI y))]) hx hb dL_law_431 hl (by decide) rfl (fun ls hl => ?_)
  refine lv_iconst (v := nI 1) hx hb dL_law_433 (by decide) ?_
  refine lv_iload hx hb dL_law_434 (lv_at hl 0 rfl) ?_
  refine lv_isub hx hb dL_law_436 ?_
  refine hw_ti (pk_sub (by omega)) ?_
  refine lv_istore (lv' := [(18, .int (nI (1 - j))), (17, .int (nI j)), (0, .ref Z.2.2.2), (1, .int (nI i)), (2, .ref t), (3, .ref (ad 0 0)), (9, .int (nI h9)), (10, .int (nI w)), (11, .int (nI b)), (12, .ref q12), (13, .ref q13), (14, .ref q14), (15, .int (nI al)), (16, .int (nI y))]) hx hb dL_law_437 hl (by decide) rfl (fun ls hl => ?_)
  refine lv_aload_n hx hb dL_law_439 rfl (lv_at hl 5 rfl) ?_
  refine lv_iload hx hb dL_law_440 (lv_at hl 1 rfl) ?_
  refine lv_iconst (v := nI 1) hx hb dL_law_442 (by decide) ?_
  have lh443 : lh Z (M) ad S := hh
  obtain ⟨T443, hP443⟩ := lh443
  have e443 : (M) (ad 0 0) = hp_e0 Z ad S T443 0 := hP443.m 0 0 (by decide)
  refine hw_ci hI (hw_rV hx hb hml hown hts hk hI (m_X5_ofMachine_k l Z M ad S T443 (hq_b ad) j 1 hP443 hj.b hj2 (by decide)) cv_L_79 e443 rfl rfl ⟨rfl, rfl⟩ ⟨(by first | exact Nat.le_of_ble_eq_true rfl | (show _ ≤ 600104; omega) | (show _ ≤ 7301314; omega) | omega), (by first | exact Nat.le_of_ble_eq_true rfl | (show _ ≤ 600104; omega) | (show _ ≤ 7301314; omega) | omega)⟩ rfl hl.1 rfl (by first | exact Nat.le_of_ble_eq_true rfl | (show _ ≤ 600104; omega) | (show _ ≤ 7301314; omega) | omega) ⟨(by first | exact Nat.le_of_ble_eq_true rfl | (show _ ≤ 600104; omega) | (show _ ≤ 7301314; omega) | omega), (by first | exact Nat.le_of_ble_eq_true rfl | (show _ ≤ 600104; omega) | (show _ ≤ 7301314; omega) | omega)⟩ dL_law_443) (fun r443 M443 H locs hR hI => ?_)
  obtain ⟨rfl, rfl⟩ := hR
  refine hw_ti (lj_mo hj2 hm2) ?_
  refine lv_if_ge (tgt := 484) hx hb dL_law_446 (by decide) (fun hc => absurd hc (by decide)) (fun _ => ?_)
  refine lv_aload_n hx hb dL_law_449 rfl (lv_at hl 5 rfl) ?_
  refine lv_iload hx hb dL_law_450 (lv_at hl 0 rfl) ?_
  refine lv_iconst (v := nI 1) hx hb dL_law_452 (by decide) ?_
  have lh453 : lh Z (M) ad S := hh
  obtain ⟨T453, hP453⟩ := lh453
  have e453 : (M) (ad 0 0) = hp_e0 Z ad S T453 0 := hP453.m 0 0 (by decide)
  refine hw_ci hI (hw_rV hx hb hml hown hts hk hI (m_X5_ofMachine_k l Z M ad S T453 (hq_b ad) (1 - j) 1 hP453 hj.b (show 1 - j < 2 by omega) (by decide)) cv_L_79 e453 rfl rfl ⟨rfl, rfl⟩ ⟨(by first | exact Nat.le_of_ble_eq_true rfl | (show _ ≤ 600104; omega) | (show _ ≤ 7301314; omega) | omega), (by first | exact Nat.le_of_ble_eq_true rfl | (show _ ≤ 600104; omega) | (show _ ≤ 7301314; omega) | omega)⟩ rfl hl.1 rfl (by first | exact Nat.le_of_ble_eq_true rfl | (show _ ≤ 600104; omega) | (show _ ≤ 7301314; omega) | omega) ⟨(by first | exact Nat.le_of_ble_eq_true rfl | (show _ ≤ 600104; omega) | (show _ ≤ 7301314; omega) | omega), (by first | exact Nat.le_of_ble_eq_true rfl | (show _ ≤ 600104; omega) | (show _ ≤ 7301314; omega) | omega)⟩ dL_law_453) (fun r453 M453 H locs hR hI => ?_)
  obtain ⟨rfl, rfl⟩ := hR
  refine hw_ti hm2.2.1 ?_
  refine lv_if_lt (tgt := 471) hx hb dL_law_456 (by decide) (fun hc => absurd hc (by decide)) (fun _ => ?_)
  refine lv_aload_n hx hb dL_law_459 rfl (lv_at hl 5 rfl) ?_
  refine lv_iload hx hb dL_law_460 (lv_at hl 0 rfl) ?_
  have lh462 : lh Z (M) ad S := hh
  obtain ⟨T462, hP462⟩ := lh462
  have e462 : (M) (ad 0 0) = hp_e0 Z ad S T462 0 := hP462.m 0 0 (by decide)
  refine hw_yi hI (hw_xV hx hb hml hown hts hk hI (m_X5_unload l hst Z M ad S T462 (hq_b ad) (nI (1 - j)) hP462 hj.b) cv_L_82 e462 rfl rfl ⟨rfl, rfl⟩ ⟨(by first | exact Nat.le_of_ble_eq_true rfl | (show _ ≤ 600104; omega) | (show _ ≤ 7301314; omega) | omega), (by first | exact Nat.le_of_ble_eq_true rfl | (show _ ≤ 600104; omega) | (show _ ≤ 7301314; omega) | omega)⟩ rfl hl.1 rfl (by first | exact Nat.le_of_ble_eq_true rfl | (show _ ≤ 600104; omega) | (show _ ≤ 7301314; omega) | omega) ⟨(by first | exact Nat.le_of_ble_eq_true rfl | (show _ ≤ 600104; omega) | (show _ ≤ 7301314; omega) | omega), (by first | exact Nat.le_of_ble_eq_true rfl | (show _ ≤ 600104; omega) | (show _ ≤ 7301314; omega) | omega)⟩ dL_law_462) (fun _ _ _ _ _ _ _ hX9 _ _ _ => lx (ls_unload (show 1 - j < 2 by omega) hm2 (lj_om hj (by omega))) hX9) (fun r462 M462 H locs hR hI => ?_)
  obtain ⟨rfl, hC462, hF462⟩ := lr (ls_unload (show 1 - j < 2 by omega) hm2 (lj_om hj (by omega))) hR
  have b462_t : hq_b ad t := hbt
  have f462_t : M462 t = hw_ob 0 [.ref (ad 0 0), .ref Z.2.2.2, .int (nI d), v3, v4, v5, v6, v7, v8, v9, v10] := (hF462 _ b462_t).trans ht
  have b462_q12 : hq_b ad q12 := b12
  have f462_q12 : M462 q12 = hw_al Z 8 f12 := (hF462 _ b462_q12).trans e12
  have b462_q13 : hq_b ad q13 := b13
  have f462_q13 : M462 q13 = hw_ai Z 3 sp := (hF462 _ b462_q13).trans e13
  have b462_q14 : hq_b ad q14 := b14
  have f462_q14 : M462 q14 = hw_ai Z 3 ff := (hF462 _ b462_q14).trans e14
  refine lv_iconst (v := nI 1) hx hb dL_law_465 (by decide) ?_
  refine lv_icmp_ge (tgt := 471) hx hb dL_law_466 (by decide) (fun _ => ?_) (fun hc => absurd (nI_le (by omega) (by omega)) hc)
  refine lv_aload_n hx hb dL_law_471 rfl (lv_at hl 5 rfl) ?_
  refine lv_iload hx hb dL_law_472 (lv_at hl 1 rfl) ?_
  refine lv_iconst (v := nI 0) hx hb dL_law_474 (by decide) ?_
  have lh475 : lh Z (M462) ad (hs_gb S (1 - j) (nI G)) := hC462
  obtain ⟨T475, hP475⟩ := lh475
  have e475 : (M462) (ad 0 0) = hp_e0 Z ad (hs_gb S (1 - j) (nI G)) T475 0 := hP475.m 0 0 (by decide)
  refine hw_yi hI (hw_xV hx hb hml hown hts hk hI (m_X5_load l hst Z M462 ad (hs_gb S (1 - j) (nI G)) T475 (hq_b ad) (nI j) (nI 0) hP475 hu1.b) cv_L_85 e475 rfl rfl ⟨rfl, rfl⟩ ⟨(by first | exact Nat.le_of_ble_eq_true rfl | (show _ ≤ 600104; omega) | (show _ ≤ 7301314; omega) | omega), (by first | exact Nat.le_of_ble_eq_true rfl | (show _ ≤ 600104; omega) | (show _ ≤ 7301314; omega) | omega)⟩ rfl hl.1 rfl (by first | exact Nat.le_of_ble_eq_true rfl | (show _ ≤ 600104; omega) | (show _ ≤ 7301314; omega) | omega) ⟨(by first | exact Nat.le_of_ble_eq_true rfl | (show _ ≤ 600104; omega) | (show _ ≤ 7301314; omega) | omega), (by first | exact Nat.le_of_ble_eq_true rfl | (show _ ≤ 600104; omega) | (show _ ≤ 7301314; omega) | omega)⟩ dL_law_475) (fun _ _ _ _ _ _ _ hX9 _ _ _ => lx (ls_load hu1 (by omega) hj2 hu2 ⟨by omega, hG.2⟩) hX9) (fun r475 M475 H locs hR hI => ?_)
  obtain ⟨rfl, hC475, hF475⟩ := lr (ls_load hu1 (by omega) hj2 hu2 ⟨by omega, hG.2⟩) hR
  have b475_t : hq_b ad t := b462_t
  have f475_t : M475 t = hw_ob 0 [.ref (ad 0 0), .ref Z.2.2.2, .int (nI d), v3, v4, v5, v6, v7, v8, v9, v10] := (hF475 _ b475_t).trans f462_t
  have b475_q12 : hq_b ad q12 := b462_q12
  have f475_q12 : M475 q12 = hw_al Z 8 f12 := (hF475 _ b475_q12).trans f462_q12
  have b475_q13 : hq_b ad q13 := b462_q13
  have f475_q13 : M475 q13 = hw_ai Z 3 sp := (hF475 _ b475_q13).trans f462_q13
  have b475_q14 : hq_b ad q14 := b462_q14
  have f475_q14 : M475 q14 = hw_ai Z 3 ff := (hF475 _ b475_q14).trans f462_q14
  refine lv_iconst (v := nI 1) hx hb dL_law_478 (by decide) ?_
  refine lv_icmp_ge (tgt := 484) hx hb dL_law_479 (by decide) (fun _ => ?_) (fun hc => absurd (nI_le (by omega) (by omega)) hc)
  exact K _ _ _ _ _ _ (ls_L (hs_gb S (1 - j) (nI G)) j) hI (lj_load hu1 (by omega) hj2 hu2 ⟨by omega, hG.2⟩).1 (lj_load hu1 (by omega) hj2 hu2 ⟨by omega, hG.2⟩).2 hC h0 f475_t f475_q12 f475_q13 f475_q14 hC475 (lv_sub hl [2, 3, 4, 5, 6, 7, 8, 9, 10, 11, 12, 13, 1, 0] rfl) (by omega) (by omega)
