theorem cv_L_67 : hw_CV RL 67 yX5_piece cX5_piece 1 (some .int) 0 := ⟨cb_X5_piece _ _, (hw_win (w := .methodLink RL 67 yX5_piece) (by decide +kernel) (by decide +kernel)), (hw_win (w := .instanceMethod yX5_piece) (by decide +kernel) (by decide +kernel)), (hw_win (w := .selects yX5_piece.cls yX5_piece yX5_piece) (by decide +kernel) (by decide +kernel))⟩
theorem cv_L_70 : hw_CV RL 70 yX5_layer cX5_layer 6 (some .int) 3 := ⟨cb_X5_layer _ _, (hw_win (w := .methodLink RL 70 yX5_layer) (by decide +kernel) (by decide +kernel)), (hw_win (w := .instanceMethod yX5_layer) (by decide +kernel) (by decide +kernel)), (hw_win (w := .selects yX5_layer.cls yX5_layer yX5_layer) (by decide +kernel) (by decide +kernel))⟩
theorem cb_L_sum (own : String) (index : Nat) : hw_CB own index yL_sum cL_sum 6 (some .int) 3 := ⟨⟨by decide +kernel, by decide +kernel, by decide +kernel⟩, (hw_win (w := .code yL_sum cL_sum 6 (some .int)) (by decide +kernel) (by decide +kernel)), (hw_win (w := .initialized yL_sum.cls) (by decide +kernel) (by decide +kernel))⟩
theorem cs_L_73 : hw_CS RL 73 yL_sum cL_sum 6 (some .int) 3 := ⟨cb_L_sum _ _, (hw_win (w := .methodLink RL 73 yL_sum) (by decide +kernel) (by decide +kernel)), (hw_win (w := .static yL_sum) (by decide +kernel) (by decide +kernel))⟩
set_option maxHeartbeats 4000000 in
set_option maxRecDepth 100000 in
theorem sg_D1 {p : Program} {l : Launch} {e : Env} {s : State} {m : MethodId} {below : List Frame} {meth : Method} {c : Code} {H : Heap} {locs : List Loc} {cells slots : Nat} {Q : State → Prop} {ls : Array Slot} {Z : hw_Z} {M : hw_M} {i h9 w b al y t d q12 q13 q14 : Nat} {ad : hp_ad} {S : hs_S} {C f12 : Nat → Int64} {sp ff : Nat → Int32} {v3 v4 v5 v6 v7 v8 v9 v10 : Value} (hst : l.stackTraces = false) (CX : lw_cx p s m c Z) (hI : hw_iv Z s M H locs) (ht : M t = hw_ob 0 [.ref (ad 0 0), .ref Z.2.2.2, .int (nI d), v3, v4, v5, v6, v7, v8, v9, v10]) (e12 : M q12 = hw_al Z 8 f12) (e13 : M q13 = hw_ai Z 3 sp) (e14 : M q14 = hw_ai Z 3 ff) (hh : lh Z M ad S) (b12 : hq_b ad q12) (b13 : hq_b ad q13) (b14 : hq_b ad q14) (n34 : q13 ≠ q14) (hd : d ≤ 300) (hy3 : y < 3) (hj : lj y (y + 1) y S) (hf : ∀ z, z < 8 → f12 z = C z) (h8 : ∀ k, 8 ≤ k → C k = 0) (hl : lv_has ls 19 [(0, .ref Z.2.2.2), (1, .int (nI i)), (2, .ref t), (3, .ref (ad 0 0)), (9, .int (nI h9)), (10, .int (nI w)), (11, .int (nI b)), (12, .ref q12), (13, .ref q13), (14, .ref q14), (15, .int (nI al)), (16, .int (nI y))]) (hc9 : cells + 3000 ≤ 600104) (hs9 : slots + 60000 ≤ 7301314)
    (K : ∀ (M1 : hw_M) (H1 : Heap) (locs1 : List Loc) (cells1 slots1 : Nat) (ls1 : Array Slot) (j : Nat), hw_iv Z s M1 H1 locs1 → (j < 2) → (M1 t = hw_ob 0 [.ref (ad 0 0), .ref Z.2.2.2, .int (nI (d + 1)), v3, v4, v5, v6, v7, v8, v9, v10]) → (M1 q12 = hw_al Z 8 f12) → (M1 q13 = hw_ai Z 3 sp) → (M1 q14 = hw_ai Z 3 ff) → (lh Z M1 ad (hs_sC (hs_sp S (y + 1 + 1)) (y + 1) C)) → lv_has ls1 19 [(0, .ref Z.2.2.2), (1, .int (nI i)), (2, .ref t), (3, .ref (ad 0 0)), (9, .int (nI h9)), (10, .int (nI w)), (11, .int (nI b)), (12, .ref q12), (13, .ref q13), (14, .ref q14), (15, .int (nI al)), (16, .int (nI y))] → cells1 ≤ cells + 3000 → slots1 ≤ slots + 60000 → W p l e room_1 s m #[Value.ref Z.2.2.2] below meth c H1 locs1 cells1 slots1 Q (F0 m 431 ls1 [.int (nI j)])) :
    W p l e room_1 s m #[Value.ref Z.2.2.2] below meth c H locs cells slots Q (F0 m 351 ls []) := by
  obtain ⟨hx, hb, hml, hown, hts, hk⟩ := CX
  have hbt : hq_b ad t := lp_0 hh ht ⟨_, rfl⟩
  have hCn := (lj_new hj (by omega)).2
  have h0n := (lj_new hj (by omega)).1
  have hBz : ∀ z, hs_b (lz (hs_sp S (y + 1 + 1)) (y + 1) C z) := fun z => (lj_C (lj_piece hj (by omega)) (by omega) h0n _).b
  refine lv_iload hx hb dL_law_351 (lv_at hl 11 rfl) ?_
  refine lv_iconst (v := nI 3) hx hb dL_law_353 (by decide) ?_
  refine lv_icmp_ge (tgt := 632) hx hb dL_law_354 (by decide) (fun hc => absurd hc (nI_ge hy3 (by decide))) (fun _ => ?_)
  refine lv_aload_n hx hb dL_law_357 rfl (lv_at hl 3 rfl) ?_
  have lh358 : lh Z (M) ad S := hh
  obtain ⟨T358, hP358⟩ := lh358
  have e358 : (M) (ad 0 0) = hp_e0 Z ad S T358 0 := hP358.m 0 0 (by decide)
  refine hw_yi hI (hw_xV hx hb hml hown hts hk hI (m_X5_piece l hst Z M ad S T358 (hq_b ad)  hP358 hj.b) cv_L_67 e358 rfl rfl ⟨rfl, rfl⟩ ⟨(by first | exact Nat.le_of_ble_eq_true rfl | (show _ ≤ 600104; omega) | (show _ ≤ 7301314; omega) | omega), (by first | exact Nat.le_of_ble_eq_true rfl | (show _ ≤ 600104; omega) | (show _ ≤ 7301314; omega) | omega)⟩ rfl hl.1 rfl (by first | exact Nat.le_of_ble_eq_true rfl | (show _ ≤ 600104; omega) | (show _ ≤ 7301314; omega) | omega) ⟨(by first | exact Nat.le_of_ble_eq_true rfl | (show _ ≤ 600104; omega) | (show _ ≤ 7301314; omega) | omega), (by first | exact Nat.le_of_ble_eq_true rfl | (show _ ≤ 600104; omega) | (show _ ≤ 7301314; omega) | omega)⟩ dL_law_358) (fun _ _ _ _ _ _ _ hX9 _ _ _ => lx (ls_piece hj.2.1.1 (by omega)) hX9) (fun r358 M358 H locs hR hI => ?_)
  obtain ⟨rfl, hC358, hF358⟩ := lr (ls_piece hj.2.1.1 (by omega)) hR
  have b358_t : hq_b ad t := hbt
  have f358_t : M358 t = hw_ob 0 [.ref (ad 0 0), .ref Z.2.2.2, .int (nI d), v3, v4, v5, v6, v7, v8, v9, v10] := (hF358 _ b358_t).trans ht
  have b358_q12 : hq_b ad q12 := b12
  have f358_q12 : M358 q12 = hw_al Z 8 f12 := (hF358 _ b358_q12).trans e12
  have b358_q13 : hq_b ad q13 := b13
  have f358_q13 : M358 q13 = hw_ai Z 3 sp := (hF358 _ b358_q13).trans e13
  have b358_q14 : hq_b ad q14 := b14
  have f358_q14 : M358 q14 = hw_ai Z 3 ff := (hF358 _ b358_q14).trans e14
  refine lv_iload hx hb dL_law_361 (lv_at hl 11 rfl) ?_
  refine lv_iconst (v := nI 1) hx hb dL_law_363 (by decide) ?_
  refine lv_iadd hx hb dL_law_364 ?_
  refine hw_ti (nI_add _ _) ?_
  refine lv_icmp_eq (tgt := 370) hx hb dL_law_365 (by decide) (fun _ => ?_) (fun hc => absurd rfl hc)
  refine lv_iconst (v := nI 0) hx hb dL_law_370 (by decide) ?_
  refine lv_istore (lv' := [(17, .int (nI 0)), (0, .ref Z.2.2.2), (1, .int (nI i)), (2, .ref t), (3, .ref (ad 0 0)), (9, .int (nI h9)), (10, .int (nI w)), (11, .int (nI b)), (12, .ref q12), (13, .ref q13), (14, .ref q14), (15, .int (nI al)), (16, .int (nI y))]) hx hb dL_law_371 hl (by decide) rfl (fun ls hl => ?_)
  refine hw_wr (cells1 := (cells + 6 * 0 + 6)) (slots1 := (slots + 36 * 0 + 36)) (by omega) (by omega) ?_
  have hh373 : lh Z M358 ad (lz (hs_sp S (y + 1 + 1)) (y + 1) C 0) := by rw [lz_0 C (S := hs_sp S (y + 1 + 1)) hCn]; exact hC358
  suffices LP373 : ∀ z, z ≤ 8 → ∀ (M7 : hw_M) (h7t : M7 t = hw_ob 0 [.ref (ad 0 0), .ref Z.2.2.2, .int (nI d), v3, v4, v5, v6, v7, v8, v9, v10]) (h712 : M7 q12 = hw_al Z 8 f12) (h713 : M7 q13 = hw_ai Z 3 sp) (h714 : M7 q14 = hw_ai Z 3 ff) (hh7 : lh Z M7 ad (lz (hs_sp S (y + 1 + 1)) (y + 1) C z)) (H : Heap) (locs : List Loc) (ls : Array Slot), hw_iv Z s (M7) H locs → lv_has ls 19 [(17, .int (nI z)), (0, .ref Z.2.2.2), (1, .int (nI i)), (2, .ref t), (3, .ref (ad 0 0)), (9, .int (nI h9)), (10, .int (nI w)), (11, .int (nI b)), (12, .ref q12), (13, .ref q13), (14, .ref q14), (15, .int (nI al)), (16, .int (nI y))] → W p l e room_1 s m #[Value.ref Z.2.2.2] below meth c H locs (cells + 6 * z + 6) (slots + 36 * z + 36) Q (F0 m 373 ls []) from LP373 0 (by omega) M358 f358_t f358_q12 f358_q13 f358_q14 hh373 _ _ _ hI (lv_sub hl [0, 1, 2, 3, 4, 5, 6, 7, 8, 9, 10, 11, 12] rfl)
  refine hw_loop ?_ (fun z hi373 ih373 => ?_)
  · intro M7 h7t h712 h713 h714 hh7 H locs ls hI hl
    refine lv_iload hx hb dL_law_373 (lv_at hl 0 rfl) ?_
    refine lv_bipush (v := nI 8) hx hb dL_law_375 (by decide) ?_
    refine lv_icmp_ge (tgt := 426) hx hb dL_law_377 (by decide) (fun _ => ?_) (fun hc => absurd (Int32.le_refl _) hc)
    refine lv_aload_n hx hb dL_law_426 rfl (lv_at hl 3 rfl) ?_
    refine lv_iconst (v := nI 2) hx hb dL_law_427 (by decide) ?_
    refine hw_ci hI (hw_rV hx hb hml hown hts hk hI (m_X6_draw l Z M7 t d (.ref (ad 0 0)) v3 v4 v5 v6 v7 v8 v9 v10 2 h7t (by decide) (by decide) (by omega)) cv_L_22 h7t rfl rfl ⟨rfl, rfl⟩ ⟨(by first | exact Nat.le_of_ble_eq_true rfl | (show _ ≤ 600104; omega) | (show _ ≤ 7301314; omega) | omega), (by first | exact Nat.le_of_ble_eq_true rfl | (show _ ≤ 600104; omega) | (show _ ≤ 7301314; omega) | omega)⟩ rfl hl.1 rfl (by first | exact Nat.le_of_ble_eq_true rfl | (show _ ≤ 600104; omega) | (show _ ≤ 7301314; omega) | omega) ⟨(by first | exact Nat.le_of_ble_eq_true rfl | (show _ ≤ 600104; omega) | (show _ ≤ 7301314; omega) | omega), (by first | exact Nat.le_of_ble_eq_true rfl | (show _ ≤ 600104; omega) | (show _ ≤ 7301314; omega) | omega)⟩ dL_law_428) (fun r428 M428 H locs hR hI => ?_)
    obtain ⟨j428, hj428, rfl, rfl⟩ := hR
    exact K _ _ _ _ _ _ j428 hI hj428 (hw_us _ _ _) (hw_up h712 (Ne.symm (hw_noa h7t h712))) (hw_up h713 (Ne.symm (hw_noa h7t h713))) (hw_up h714 (Ne.symm (hw_noa h7t h714))) (by rw [← lz_8 (S := hs_sp S (y + 1 + 1)) (g := y + 1) h8]; exact (lp_w hh7 hbt)) (lv_sub hl [1, 2, 3, 4, 5, 6, 7, 8, 9, 10, 11, 12] rfl) (by omega) (by omega)
  · intro M7 h7t h712 h713 h714 hh7 H locs ls hI hl
    refine lv_iload hx hb dL_law_373 (lv_at hl 0 rfl) ?_
    refine lv_bipush (v := nI 8) hx hb dL_law_375 (by decide) ?_
    refine lv_icmp_ge (tgt := 426) hx hb dL_law_377 (by decide) (fun hc => absurd hc (nI_ge hi373 (by decide))) (fun _ => ?_)
    refine lv_aload_n hx hb dL_law_380 rfl (lv_at hl 4 rfl) ?_
    refine lv_iload hx hb dL_law_381 (lv_at hl 12 rfl) ?_
    refine lv_iconst (v := nI 1) hx hb dL_law_383 (by decide) ?_
    refine lv_iadd hx hb dL_law_384 ?_
    refine hw_ti (nI_add _ _) ?_
    refine lv_iload hx hb dL_law_385 (lv_at hl 0 rfl) ?_
    refine lv_aload hx hb dL_law_387 (lv_at hl 8 rfl) ?_
    refine lv_iload hx hb dL_law_389 (lv_at hl 0 rfl) ?_
    refine hw_lald hx hb hk hI h712 (j := z) rfl (by omega) (by decide) dL_law_391 ?_
    refine hw_tl (hf z hi373) ?_
    have lh392 : lh Z (M7) ad (lz (hs_sp S (y + 1 + 1)) (y + 1) C z) := hh7
    obtain ⟨T392, hP392⟩ := lh392
    have e392 : (M7) (ad 0 0) = hp_e0 Z ad (lz (hs_sp S (y + 1 + 1)) (y + 1) C z) T392 0 := hP392.m 0 0 (by decide)
    refine hw_yi hI (hw_xV hx hb hml hown hts hk hI (m_X5_layer l hst Z M7 ad (lz (hs_sp S (y + 1 + 1)) (y + 1) C z) T392 (hq_b ad) (nI (y + 1)) (nI z) (C z) hP392 (hBz _)) cv_L_70 e392 rfl rfl ⟨rfl, rfl⟩ ⟨(by first | exact Nat.le_of_ble_eq_true rfl | (show _ ≤ 600104; omega) | (show _ ≤ 7301314; omega) | omega), (by first | exact Nat.le_of_ble_eq_true rfl | (show _ ≤ 600104; omega) | (show _ ≤ 7301314; omega) | omega)⟩ rfl hl.1 rfl (by first | exact Nat.le_of_ble_eq_true rfl | (show _ ≤ 600104; omega) | (show _ ≤ 7301314; omega) | omega) ⟨(by first | exact Nat.le_of_ble_eq_true rfl | (show _ ≤ 600104; omega) | (show _ ≤ 7301314; omega) | omega), (by first | exact Nat.le_of_ble_eq_true rfl | (show _ ≤ 600104; omega) | (show _ ≤ 7301314; omega) | omega)⟩ dL_law_392) (fun _ _ _ _ _ _ _ hX9 _ _ _ => lx (lz_s (S := hs_sp S (y + 1 + 1)) (g := y + 1) (show y + 1 < y + 1 + 1 by omega) (show y + 1 + 1 ≤ 4 by omega) hi373 h0n) hX9) (fun r392 M392 H locs hR hI => ?_)
    obtain ⟨rfl, hC392, hF392⟩ := lr (lz_s (S := hs_sp S (y + 1 + 1)) (g := y + 1) (show y + 1 < y + 1 + 1 by omega) (show y + 1 + 1 ≤ 4 by omega) hi373 h0n) hR
    have b392_t : hq_b ad t := hbt
    have f392_t : M392 t = hw_ob 0 [.ref (ad 0 0), .ref Z.2.2.2, .int (nI d), v3, v4, v5, v6, v7, v8, v9, v10] := (hF392 _ b392_t).trans h7t
    have b392_q12 : hq_b ad q12 := b12
    have f392_q12 : M392 q12 = hw_al Z 8 f12 := (hF392 _ b392_q12).trans h712
    have b392_q13 : hq_b ad q13 := b13
    have f392_q13 : M392 q13 = hw_ai Z 3 sp := (hF392 _ b392_q13).trans h713
    have b392_q14 : hq_b ad q14 := b14
    have f392_q14 : M392 q14 = hw_ai Z 3 ff := (hF392 _ b392_q14).trans h714
    refine lv_aload_n hx hb dL_law_395 rfl (lv_at hl 4 rfl) ?_
    refine lv_iload hx hb dL_law_396 (lv_at hl 12 rfl) ?_
    refine lv_iconst (v := nI 1) hx hb dL_law_398 (by decide) ?_
    refine lv_iadd hx hb dL_law_399 ?_
    refine hw_ti (nI_add _ _) ?_
    refine lv_iconst (v := nI 2) hx hb dL_law_400 (by decide) ?_
    have lh401 : lh Z (M392) ad (lz (hs_sp S (y + 1 + 1)) (y + 1) C (z + 1)) := hC392
    obtain ⟨T401, hP401⟩ := lh401
    have e401 : (M392) (ad 0 0) = hp_e0 Z ad (lz (hs_sp S (y + 1 + 1)) (y + 1) C (z + 1)) T401 0 := hP401.m 0 0 (by decide)
    refine hw_ci hI (hw_rV hx hb hml hown hts hk hI (m_X5_ofPiece_k l Z M392 ad (lz (hs_sp S (y + 1 + 1)) (y + 1) C (z + 1)) T401 (hq_b ad) (y + 1) 2 hP401 (hBz _) (show y + 1 < y + 1 + 1 by omega) (by decide)) cv_L_46 e401 rfl rfl ⟨rfl, rfl⟩ ⟨(by first | exact Nat.le_of_ble_eq_true rfl | (show _ ≤ 600104; omega) | (show _ ≤ 7301314; omega) | omega), (by first | exact Nat.le_of_ble_eq_true rfl | (show _ ≤ 600104; omega) | (show _ ≤ 7301314; omega) | omega)⟩ rfl hl.1 rfl (by first | exact Nat.le_of_ble_eq_true rfl | (show _ ≤ 600104; omega) | (show _ ≤ 7301314; omega) | omega) ⟨(by first | exact Nat.le_of_ble_eq_true rfl | (show _ ≤ 600104; omega) | (show _ ≤ 7301314; omega) | omega), (by first | exact Nat.le_of_ble_eq_true rfl | (show _ ≤ 600104; omega) | (show _ ≤ 7301314; omega) | omega)⟩ dL_law_401) (fun r401 M401 H locs hR hI => ?_)
    obtain ⟨rfl, rfl⟩ := hR
    refine hw_ti (lz_o _ _ _ hi373) ?_
    refine lv_aload_n hx hb dL_law_404 rfl (lv_at hl 4 rfl) ?_
    refine lv_iload hx hb dL_law_405 (lv_at hl 12 rfl) ?_
    refine lv_iconst (v := nI 1) hx hb dL_law_407 (by decide) ?_
    refine lv_iadd hx hb dL_law_408 ?_
    refine hw_ti (nI_add _ _) ?_
    refine lv_iload hx hb dL_law_409 (lv_at hl 0 rfl) ?_
    have lh411 : lh Z (M392) ad (lz (hs_sp S (y + 1 + 1)) (y + 1) C (z + 1)) := hC392
    obtain ⟨T411, hP411⟩ := lh411
    refine hw_ci hI (hw_rS hx hb hml hown hts hk hI (m_L_sum l Z M392 ad (lz (hs_sp S (y + 1 + 1)) (y + 1) C (z + 1)) T411 (hq_b ad) (y + 1) z hP411 (hBz _) (show y + 1 < y + 1 + 1 by omega) (by omega)) cs_L_73 ⟨rfl, rfl⟩ ⟨(by first | exact Nat.le_of_ble_eq_true rfl | (show _ ≤ 600104; omega) | (show _ ≤ 7301314; omega) | omega), (by first | exact Nat.le_of_ble_eq_true rfl | (show _ ≤ 600104; omega) | (show _ ≤ 7301314; omega) | omega)⟩ rfl hl.1 rfl (by first | exact Nat.le_of_ble_eq_true rfl | (show _ ≤ 600104; omega) | (show _ ≤ 7301314; omega) | omega) ⟨(by first | exact Nat.le_of_ble_eq_true rfl | (show _ ≤ 600104; omega) | (show _ ≤ 7301314; omega) | omega), (by first | exact Nat.le_of_ble_eq_true rfl | (show _ ≤ 600104; omega) | (show _ ≤ 7301314; omega) | omega)⟩ dL_law_411) (fun r411 M411 H locs hR hI => ?_)
    obtain ⟨rfl, rfl⟩ := hR
    refine hw_ti (congrArg nI (lz_u _ _ _ hi373)) ?_
    refine lv_isub hx hb dL_law_414 ?_
    refine hw_ti (lz_d C hi373) ?_
    refine lv_icmp_eq (tgt := 420) hx hb dL_law_415 (by decide) (fun _ => ?_) (fun hc => absurd rfl hc)
    refine lv_iinc (v := nI (z + 1)) (lv' := [(17, .int (nI (z + 1))), (0, .ref Z.2.2.2), (1, .int (nI i)), (2, .ref t), (3, .ref (ad 0 0)), (9, .int (nI h9)), (10, .int (nI w)), (11, .int (nI b)), (12, .ref q12), (13, .ref q13), (14, .ref q14), (15, .int (nI al)), (16, .int (nI y))]) hx hb dL_law_420 hl (k := 0) rfl (hw_inc _) (by decide) rfl (fun ls hl => ?_)
    refine lv_goto (tgt := 373) hx hb dL_law_423 (by decide) ?_
    refine W.widen (k := (cells + 6 * (z + 1) + 6)) (n := (slots + 36 * (z + 1) + 36)) (by omega) (by omega) ?_
    exact ih373 M392 f392_t f392_q12 f392_q13 f392_q14 hC392 _ _ _ hI (lv_sub hl [0, 1, 2, 3, 4, 5, 6, 7, 8, 9, 10, 11, 12] rfl)
