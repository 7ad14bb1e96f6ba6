theorem cb_X5_start (own : String) (index : Nat) : hw_CB own index yX5_start cX5_start 8 (some .int) 4 := ⟨⟨by decide +kernel, by decide +kernel, by decide +kernel⟩, (hw_win (w := .code yX5_start cX5_start 8 (some .int)) (by decide +kernel) (by decide +kernel)), (hw_win (w := .initialized yX5_start.cls) (by decide +kernel) (by decide +kernel))⟩
theorem cv_L_88 : hw_CV RL 88 yX5_start cX5_start 8 (some .int) 4 := ⟨cb_X5_start _ _, (hw_win (w := .methodLink RL 88 yX5_start) (by decide +kernel) (by decide +kernel)), (hw_win (w := .instanceMethod yX5_start) (by decide +kernel) (by decide +kernel)), (hw_win (w := .selects yX5_start.cls yX5_start yX5_start) (by decide +kernel) (by decide +kernel))⟩
theorem cb_X5_grow (own : String) (index : Nat) : hw_CB own index yX5_grow cX5_grow 5 (some .int) 2 := ⟨⟨by decide +kernel, by decide +kernel, by decide +kernel⟩, (hw_win (w := .code yX5_grow cX5_grow 5 (some .int)) (by decide +kernel) (by decide +kernel)), (hw_win (w := .initialized yX5_grow.cls) (by decide +kernel) (by decide +kernel))⟩
theorem cv_L_92 : hw_CV RL 92 yX5_grow cX5_grow 5 (some .int) 2 := ⟨cb_X5_grow _ _, (hw_win (w := .methodLink RL 92 yX5_grow) (by decide +kernel) (by decide +kernel)), (hw_win (w := .instanceMethod yX5_grow) (by decide +kernel) (by decide +kernel)), (hw_win (w := .selects yX5_grow.cls yX5_grow yX5_grow) (by decide +kernel) (by decide +kernel))⟩
set_option maxHeartbeats 4000000 in
set_option maxRecDepth 100000 in
theorem sg_D3 {p : Program} {l : Launch} {e : Env} {s : State} {m : MethodId} {below : List Frame} {meth : Method} {c : Code} {H : Heap} {locs : List Loc} {cells slots : Nat} {Q : State → Prop} {ls : Array Slot} {Z : hw_Z} {M : hw_M} {v : Nat} {j G : Nat} {i h9 w b al y t d q12 q13 q14 : Nat} {ad : hp_ad} {S : hs_S} {C f12 : Nat → Int64} {sp ff : Nat → Int32} {v3 v4 v5 v6 v7 v8 v9 v10 : Value} (hst : l.stackTraces = false) (CX : lw_cx p s m c Z) (hI : hw_iv Z s M H locs) (ht : M t = hw_ob 0 [.ref (ad 0 0), .ref Z.2.2.2, .int (nI d), v3, v4, v5, v6, v7, v8, v9, v10]) (e12 : M q12 = hw_al Z 8 f12) (e13 : M q13 = hw_ai Z 3 sp) (e14 : M q14 = hw_ai Z 3 ff) (hh : lh Z M ad S) (b12 : hq_b ad q12) (b13 : hq_b ad q13) (b14 : hq_b ad q14) (n34 : q13 ≠ q14) (hd : d ≤ 300) (hj2 : j < 2) (hj : lj y (y + 1 + 1) (y + 1) S) (hm2 : lj_m G j S) (hG : 1024 ≤ G ∧ G ≤ 4000) (hC : hs_C S (y + 1) = C) (h0 : hs_P S (y + 1) 0 = 0) (hy3 : y < 3) (hpw : hb_pw (nI w)) (hv20 : 1 ≤ v ∧ v ≤ 20) (hsp : sp y = nI v) (h9e : h9 = hb_ht C 8) (h9n : ¬ hb_ht C 8 = 0) (hal : al < 2) (hl : lv_has ls 19 [(0, .ref Z.2.2.2), (1, .int (nI i)), (2, .ref t), (3, .ref (ad 0 0)), (9, .int (nI h9)), (10, .int (nI w)), (11, .int (nI b)), (12, .ref q12), (13, .ref q13), (14, .ref q14), (15, .int (nI al)), (16, .int (nI y)), (17, .int (nI j)), (18, .int (nI (1 - j)))]) (hc9 : cells + 3000 ≤ 600104) (hs9 : slots + 60000 ≤ 7301314)
    (K : ∀ (M1 : hw_M) (H1 : Heap) (locs1 : List Loc) (cells1 slots1 : Nat) (ls1 : Array Slot) (S6 : hs_S) (al6 G6 : Nat) (ff6 : Nat → Int32), hw_iv Z s M1 H1 locs1 → (lj (y + 1) (y + 1 + 1) (y + 1) S6) → (G ≤ G6 + 1024 ∧ G6 ≤ G) → (lj_g G6 S6) → (al6 < 2) → (al6 = 1 → al = 1 ∧ ff6 y = nI (hb_fw C (nI w) v)) → (∀ z, z ≠ y → ff6 z = ff z) → (M1 t = hw_ob 0 [.ref (ad 0 0), .ref Z.2.2.2, .int (nI d), v3, v4, v5, v6, v7, v8, v9, v10]) → (M1 q12 = hw_al Z 8 f12) → (M1 q13 = hw_ai Z 3 sp) → (M1 q14 = hw_ai Z 3 ff6) → (lh Z M1 ad S6) → lv_has ls1 19 [(0, .ref Z.2.2.2), (1, .int (nI i)), (2, .ref t), (3, .ref (ad 0 0)), (9, .int (nI h9)), (10, .int (nI w)), (11, .int (nI b)), (12, .ref q12), (13, .ref q13), (14, .ref q14), (15, .int (nI al6)), (16, .int (nI (y + 1)))] → cells1 ≤ cells + 3000 → slots1 ≤ slots + 60000 → W p l e room_1 s m #[Value.ref Z.2.2.2] below meth c H1 locs1 cells1 slots1 Q (F0 m 351 ls1 [])) :
    W p l e room_1 s m #[Value.ref Z.2.2.2] below meth c H locs cells slots Q (F0 m 484 ls []) := by
  obtain ⟨hx, hb, hml, hown, hts, hk⟩ := CX
  have hbt : hq_b ad t := lp_0 hh ht ⟨_, rfl⟩
  have hn4 : y + 1 + 1 ≤ 4 := by omega
  have hvd : ¬ nI v < nI 1 ∧ nI v ≤ nI 20 := ⟨nI_nlt (by omega) (by omega), nI_le (by omega) (by decide)⟩
  have hCn : ¬ hb_ht (hs_C S (y + 1)) 8 = 0 := by rw [hC]; exact h9n
  have hs0 := ls_start hj hn4 hj2 hm2 (show y + 1 < y + 1 + 1 by omega) h0 hpw hvd hCn
  have hsd := lj_started hj hn4 hj2 hm2 (show y + 1 < y + 1 + 1 by omega) h0 hpw hvd hCn
  have hgr := ls_grow hj2 hsd.2 (show y + 1 < 4 by omega)
  have hgn := lj_grown hj rfl hn4 hj2 hm2 h0 hpw hvd hCn hG
  rw [hC] at hs0 hgn
  generalize ls_S S j (y + 1) (nI w) (nI v) = S5 at hs0 hsd hgr hgn
  generalize (hs_gr j 8 S5).2 = S6 at hgr hgn
  generalize nI (hs_gr j 8 S5).1 = r6 at hgr
  obtain ⟨g1, ⟨G6, g2, g2', g2s⟩, g3, g4, g5, ⟨u6, g6, g6'⟩, g7⟩ := hgn
  have hnp6 : y + 1 < hs_np S6 := by rw [g1.2.1.1]; omega
  refine lv_aload_n hx hb dL_law_484 rfl (lv_at hl 3 rfl) ?_
  refine lv_iload hx hb dL_law_485 (lv_at hl 12 rfl) ?_
  refine lv_iload hx hb dL_law_487 (lv_at hl 11 rfl) ?_
  refine lv_iconst (v := nI 1) hx hb dL_law_489 (by decide) ?_
  refine lv_iadd hx hb dL_law_490 ?_
  refine hw_ti (nI_add _ _) ?_
  refine lv_iload hx hb dL_law_491 (lv_at hl 5 rfl) ?_
  refine lv_aload hx hb dL_law_493 (lv_at hl 8 rfl) ?_
  refine lv_iload hx hb dL_law_495 (lv_at hl 11 rfl) ?_
  refine hw_iald hx hb hk hI e13 (j := y) rfl hy3 (by decide) dL_law_497 ?_
  refine hw_ti hsp ?_
  have lh498 : lh Z (M) ad S := hh
  obtain ⟨T498, hP498⟩ := lh498
  have e498 : (M) (ad 0 0) = hp_e0 Z ad S T498 0 := hP498.m 0 0 (by decide)
  refine hw_yi hI (hw_xV hx hb hml hown hts hk hI (m_X5_start l hst Z M ad S T498 (hq_b ad) (nI j) (nI (y + 1)) (nI w) (nI v) hP498 hj.b) cv_L_88 e498 rfl rfl ⟨rfl, rfl⟩ ⟨(by first | exact Nat.le_of_ble_eq_true rfl | (show _ ≤ 600104; omega) | (show _ ≤ 7301314; omega) | omega), (by first | exact Nat.le_of_ble_eq_true rfl | (show _ ≤ 600104; omega) | (show _ ≤ 7301314; omega) | omega)⟩ rfl hl.1 rfl (by first | exact Nat.le_of_ble_eq_true rfl | (show _ ≤ 600104; omega) | (show _ ≤ 7301314; omega) | omega) ⟨(by first | exact Nat.le_of_ble_eq_true rfl | (show _ ≤ 600104; omega) | (show _ ≤ 7301314; omega) | omega), (by first | exact Nat.le_of_ble_eq_true rfl | (show _ ≤ 600104; omega) | (show _ ≤ 7301314; omega) | omega)⟩ dL_law_498) (fun _ _ _ _ _ _ _ hX9 _ _ _ => lx hs0 hX9) (fun r498 M498 H locs hR hI => ?_)
  obtain ⟨rfl, hC498, hF498⟩ := lr hs0 hR
  have b498_t : hq_b ad t := hbt
  have f498_t : M498 t = hw_ob 0 [.ref (ad 0 0), .ref Z.2.2.2, .int (nI d), v3, v4, v5, v6, v7, v8, v9, v10] := (hF498 _ b498_t).trans ht
  have b498_q12 : hq_b ad q12 := b12
  have f498_q12 : M498 q12 = hw_al Z 8 f12 := (hF498 _ b498_q12).trans e12
  have b498_q13 : hq_b ad q13 := b13
  have f498_q13 : M498 q13 = hw_ai Z 3 sp := (hF498 _ b498_q13).trans e13
  have b498_q14 : hq_b ad q14 := b14
  have f498_q14 : M498 q14 = hw_ai Z 3 ff := (hF498 _ b498_q14).trans e14
  refine hw_ti (congrArg nI h9e.symm) ?_
  refine lv_iload hx hb dL_law_501 (lv_at hl 4 rfl) ?_
  refine lv_icmp_eq (tgt := 508) hx hb dL_law_503 (by decide) (fun _ => ?_) (fun hc => absurd rfl hc)
  refine lv_aload_n hx hb dL_law_508 rfl (lv_at hl 3 rfl) ?_
  refine lv_iload hx hb dL_law_509 (lv_at hl 12 rfl) ?_
  refine lv_bipush (v := nI 8) hx hb dL_law_511 (by decide) ?_
  have lh513 : lh Z (M498) ad S5 := hC498
  obtain ⟨T513, hP513⟩ := lh513
  have e513 : (M498) (ad 0 0) = hp_e0 Z ad S5 T513 0 := hP513.m 0 0 (by decide)
  refine hw_yi hI (hw_xV hx hb hml hown hts hk hI (m_X5_grow l hst Z M498 ad S5 T513 (hq_b ad) (nI j) (nI 8) hP513 hsd.1.b) cv_L_92 e513 rfl rfl ⟨rfl, rfl⟩ ⟨(by first | exact Nat.le_of_ble_eq_true rfl | (show _ ≤ 600104; omega) | (show _ ≤ 7301314; omega) | omega), (by first | exact Nat.le_of_ble_eq_true rfl | (show _ ≤ 600104; omega) | (show _ ≤ 7301314; omega) | omega)⟩ rfl hl.1 rfl (by first | exact Nat.le_of_ble_eq_true rfl | (show _ ≤ 600104; omega) | (show _ ≤ 7301314; omega) | omega) ⟨(by first | exact Nat.le_of_ble_eq_true rfl | (show _ ≤ 600104; omega) | (show _ ≤ 7301314; omega) | omega), (by first | exact Nat.le_of_ble_eq_true rfl | (show _ ≤ 600104; omega) | (show _ ≤ 7301314; omega) | omega)⟩ dL_law_513) (fun _ _ _ _ _ _ _ hX9 _ _ _ => lx hgr hX9) (fun r513 M513 H locs hR hI => ?_)
  obtain ⟨rfl, hC513, hF513⟩ := lr hgr hR
  have b513_t : hq_b ad t := b498_t
  have f513_t : M513 t = hw_ob 0 [.ref (ad 0 0), .ref Z.2.2.2, .int (nI d), v3, v4, v5, v6, v7, v8, v9, v10] := (hF513 _ b513_t).trans f498_t
  have b513_q12 : hq_b ad q12 := b498_q12
  have f513_q12 : M513 q12 = hw_al Z 8 f12 := (hF513 _ b513_q12).trans f498_q12
  have b513_q13 : hq_b ad q13 := b498_q13
  have f513_q13 : M513 q13 = hw_ai Z 3 sp := (hF513 _ b513_q13).trans f498_q13
  have b513_q14 : hq_b ad q14 := b498_q14
  have f513_q14 : M513 q14 = hw_ai Z 3 ff := (hF513 _ b513_q14).trans f498_q14
  refine lv_pop hx hb dL_law_516 rfl ?_
  refine lv_iload hx hb dL_law_517 (lv_at hl 10 rfl) ?_
  refine lv_aload_n hx hb dL_law_519 rfl (lv_at hl 3 rfl) ?_
  refine lv_iload hx hb dL_law_520 (lv_at hl 11 rfl) ?_
  refine lv_iconst (v := nI 1) hx hb dL_law_522 (by decide) ?_
  refine lv_iadd hx hb dL_law_523 ?_
  refine hw_ti (nI_add _ _) ?_
  refine lv_iconst (v := nI 0) hx hb dL_law_524 (by decide) ?_
  have lh525 : lh Z (M513) ad S6 := hC513
  obtain ⟨T525, hP525⟩ := lh525
  have e525 : (M513) (ad 0 0) = hp_e0 Z ad S6 T525 0 := hP525.m 0 0 (by decide)
  refine hw_ci hI (hw_rV hx hb hml hown hts hk hI (m_X5_ofPiece_k l Z M513 ad S6 T525 (hq_b ad) (y + 1) 0 hP525 g1.b hnp6 (by decide)) cv_L_46 e525 rfl rfl ⟨rfl, rfl⟩ ⟨(by first | exact Nat.le_of_ble_eq_true rfl | (show _ ≤ 600104; omega) | (show _ ≤ 7301314; omega) | omega), (by first | exact Nat.le_of_ble_eq_true rfl | (show _ ≤ 600104; omega) | (show _ ≤ 7301314; omega) | omega)⟩ rfl hl.1 rfl (by first | exact Nat.le_of_ble_eq_true rfl | (show _ ≤ 600104; omega) | (show _ ≤ 7301314; omega) | omega) ⟨(by first | exact Nat.le_of_ble_eq_true rfl | (show _ ≤ 600104; omega) | (show _ ≤ 7301314; omega) | omega), (by first | exact Nat.le_of_ble_eq_true rfl | (show _ ≤ 600104; omega) | (show _ ≤ 7301314; omega) | omega)⟩ dL_law_525) (fun r525 M525 H locs hR hI => ?_)
  obtain ⟨rfl, rfl⟩ := hR
  refine hw_ti rfl ?_
  refine lv_iconst (v := nI 2) hx hb dL_law_528 (by decide) ?_
  refine lv_icmp_ne (tgt := 536) hx hb dL_law_529 (by decide) (fun c529 => ?_) (fun c529 => ?_)
  · refine lv_iconst (v := nI 0) hx hb dL_law_536 (by decide) ?_
    refine lv_iand hx hb dL_law_537 ?_
    refine hw_ti ((la_and hal).2) ?_
    refine lv_istore (lv' := [(15, .int (nI 0)), (0, .ref Z.2.2.2), (1, .int (nI i)), (2, .ref t), (3, .ref (ad 0 0)), (9, .int (nI h9)), (10, .int (nI w)), (11, .int (nI b)), (12, .ref q12), (13, .ref q13), (14, .ref q14), (16, .int (nI y)), (17, .int (nI j)), (18, .int (nI (1 - j)))]) hx hb dL_law_538 hl (by decide) rfl (fun ls hl => ?_)
    refine lv_aload_n hx hb dL_law_540 rfl (lv_at hl 4 rfl) ?_
    refine lv_iload hx hb dL_law_541 (lv_at hl 12 rfl) ?_
    refine lv_iconst (v := nI 3) hx hb dL_law_543 (by decide) ?_
    have lh544 : lh Z (M513) ad S6 := hC513
    obtain ⟨T544, hP544⟩ := lh544
    have e544 : (M513) (ad 0 0) = hp_e0 Z ad S6 T544 0 := hP544.m 0 0 (by decide)
    refine hw_ci hI (hw_rV hx hb hml hown hts hk hI (m_X5_ofMachine_k l Z M513 ad S6 T544 (hq_b ad) j 3 hP544 g1.b hj2 (by decide)) cv_L_79 e544 rfl rfl ⟨rfl, rfl⟩ ⟨(by first | exact Nat.le_of_ble_eq_true rfl | (show _ ≤ 600104; omega) | (show _ ≤ 7301314; omega) | omega), (by first | exact Nat.le_of_ble_eq_true rfl | (show _ ≤ 600104; omega) | (show _ ≤ 7301314; omega) | omega)⟩ rfl hl.1 rfl (by first | exact Nat.le_of_ble_eq_true rfl | (show _ ≤ 600104; omega) | (show _ ≤ 7301314; omega) | omega) ⟨(by first | exact Nat.le_of_ble_eq_true rfl | (show _ ≤ 600104; omega) | (show _ ≤ 7301314; omega) | omega), (by first | exact Nat.le_of_ble_eq_true rfl | (show _ ≤ 600104; omega) | (show _ ≤ 7301314; omega) | omega)⟩ dL_law_544) (fun r544 M544 H locs hR hI => ?_)
    obtain ⟨rfl, rfl⟩ := hR
    refine hw_ti g3 ?_
    refine lv_if_lt (tgt := 552) hx hb dL_law_547 (by decide) (fun _ => ?_) (fun hc => absurd (by decide) hc)
    refine lv_aload hx hb dL_law_552 (lv_at hl 10 rfl) ?_
    refine lv_iload hx hb dL_law_554 (lv_at hl 11 rfl) ?_
    refine lv_aload_n hx hb dL_law_556 rfl (lv_at hl 4 rfl) ?_
    refine lv_iload hx hb dL_law_557 (lv_at hl 11 rfl) ?_
    refine lv_iconst (v := nI 1) hx hb dL_law_559 (by decide) ?_
    refine lv_iadd hx hb dL_law_560 ?_
    refine hw_ti (nI_add _ _) ?_
    refine lv_bipush (v := nI 7) hx hb dL_law_561 (by decide) ?_
    have lh563 : lh Z (M513) ad S6 := hC513
    obtain ⟨T563, hP563⟩ := lh563
    have e563 : (M513) (ad 0 0) = hp_e0 Z ad S6 T563 0 := hP563.m 0 0 (by decide)
    refine hw_ci hI (hw_rV hx hb hml hown hts hk hI (m_X5_ofPiece_k l Z M513 ad S6 T563 (hq_b ad) (y + 1) 7 hP563 g1.b hnp6 (by decide)) cv_L_46 e563 rfl rfl ⟨rfl, rfl⟩ ⟨(by first | exact Nat.le_of_ble_eq_true rfl | (show _ ≤ 600104; omega) | (show _ ≤ 7301314; omega) | omega), (by first | exact Nat.le_of_ble_eq_true rfl | (show _ ≤ 600104; omega) | (show _ ≤ 7301314; omega) | omega)⟩ rfl hl.1 rfl (by first | exact Nat.le_of_ble_eq_true rfl | (show _ ≤ 600104; omega) | (show _ ≤ 7301314; omega) | omega) ⟨(by first | exact Nat.le_of_ble_eq_true rfl | (show _ ≤ 600104; omega) | (show _ ≤ 7301314; omega) | omega), (by first | exact Nat.le_of_ble_eq_true rfl | (show _ ≤ 600104; omega) | (show _ ≤ 7301314; omega) | omega)⟩ dL_law_563) (fun r563 M563 H locs hR hI => ?_)
    obtain ⟨rfl, rfl⟩ := hR
    refine hw_ti rfl ?_
    refine lv_aload_n hx hb dL_law_566 rfl (lv_at hl 4 rfl) ?_
    refine lv_iload hx hb dL_law_567 (lv_at hl 11 rfl) ?_
    refine lv_iconst (v := nI 1) hx hb dL_law_569 (by decide) ?_
    refine lv_iadd hx hb dL_law_570 ?_
    refine hw_ti (nI_add _ _) ?_
    refine lv_bipush (v := nI 8) hx hb dL_law_571 (by decide) ?_
    have lh573 : lh Z (M513) ad S6 := hC513
    obtain ⟨T573, hP573⟩ := lh573
    have e573 : (M513) (ad 0 0) = hp_e0 Z ad S6 T573 0 := hP573.m 0 0 (by decide)
    refine hw_ci hI (hw_rV hx hb hml hown hts hk hI (m_X5_ofPiece_k l Z M513 ad S6 T573 (hq_b ad) (y + 1) 8 hP573 g1.b hnp6 (by decide)) cv_L_46 e573 rfl rfl ⟨rfl, rfl⟩ ⟨(by first | exact Nat.le_of_ble_eq_true rfl | (show _ ≤ 600104; omega) | (show _ ≤ 7301314; omega) | omega), (by first | exact Nat.le_of_ble_eq_true rfl | (show _ ≤ 600104; omega) | (show _ ≤ 7301314; omega) | omega)⟩ rfl hl.1 rfl (by first | exact Nat.le_of_ble_eq_true rfl | (show _ ≤ 600104; omega) | (show _ ≤ 7301314; omega) | omega) ⟨(by first | exact Nat.le_of_ble_eq_true rfl | (show _ ≤ 600104; omega) | (show _ ≤ 7301314; omega) | omega), (by first | exact Nat.le_of_ble_eq_true rfl | (show _ ≤ 600104; omega) | (show _ ≤ 7301314; omega) | omega)⟩ dL_law_573) (fun r573 M573 H locs hR hI => ?_)
    obtain ⟨rfl, rfl⟩ := hR
    refine hw_ti rfl ?_
    refine lv_iadd hx hb dL_law_576 ?_
    refine hw_iast hx hb hk hI f513_q14 (j := y) rfl hy3 (by decide) dL_law_577 (fun H locs hI => ?_)
    refine lv_aload_n hx hb dL_law_578 rfl (lv_at hl 4 rfl) ?_
    refine lv_iload hx hb dL_law_579 (lv_at hl 11 rfl) ?_
    refine lv_iconst (v := nI 1) hx hb dL_law_581 (by decide) ?_
    refine lv_iadd hx hb dL_law_582 ?_
    refine hw_ti (nI_add _ _) ?_
    refine lv_bipush (v := nI 14) hx hb dL_law_583 (by decide) ?_
    have lh585 : lh Z (va_up M513 q14 (hw_ai Z 3 (va_up ff y ((hs_P S6 (y + 1) 1) + (hs_P S6 (y + 1) 2))))) ad S6 := (lp_w hC513 b513_q14)
    obtain ⟨T585, hP585⟩ := lh585
    have e585 : (va_up M513 q14 (hw_ai Z 3 (va_up ff y ((hs_P S6 (y + 1) 1) + (hs_P S6 (y + 1) 2))))) (ad 0 0) = hp_e0 Z ad S6 T585 0 := hP585.m 0 0 (by decide)
    refine hw_ci hI (hw_rV hx hb hml hown hts hk hI (m_X5_ofPiece_k l Z (va_up M513 q14 (hw_ai Z 3 (va_up ff y ((hs_P S6 (y + 1) 1) + (hs_P S6 (y + 1) 2))))) ad S6 T585 (hq_b ad) (y + 1) 14 hP585 g1.b hnp6 (by decide)) cv_L_46 e585 rfl rfl ⟨rfl, rfl⟩ ⟨(by first | exact Nat.le_of_ble_eq_true rfl | (show _ ≤ 600104; omega) | (show _ ≤ 7301314; omega) | omega), (by first | exact Nat.le_of_ble_eq_true rfl | (show _ ≤ 600104; omega) | (show _ ≤ 7301314; omega) | omega)⟩ rfl hl.1 rfl (by first | exact Nat.le_of_ble_eq_true rfl | (show _ ≤ 600104; omega) | (show _ ≤ 7301314; omega) | omega) ⟨(by first | exact Nat.le_of_ble_eq_true rfl | (show _ ≤ 600104; omega) | (show _ ≤ 7301314; omega) | omega), (by first | exact Nat.le_of_ble_eq_true rfl | (show _ ≤ 600104; omega) | (show _ ≤ 7301314; omega) | omega)⟩ dL_law_585) (fun r585 M585 H locs hR hI => ?_)
    obtain ⟨rfl, rfl⟩ := hR
    refine hw_ti g5 ?_
    refine lv_iconst (v := nI 3) hx hb dL_law_588 (by decide) ?_
    refine lv_icmp_ne (tgt := 624) hx hb dL_law_589 (by decide) (fun hc => absurd rfl hc) (fun _ => ?_)
    refine lv_aload_n hx hb dL_law_592 rfl (lv_at hl 4 rfl) ?_
    refine lv_iload hx hb dL_law_593 (lv_at hl 11 rfl) ?_
    refine lv_iconst (v := nI 1) hx hb dL_law_595 (by decide) ?_
    refine lv_iadd hx hb dL_law_596 ?_
    refine hw_ti (nI_add _ _) ?_
    refine lv_bipush (v := nI 13) hx hb dL_law_597 (by decide) ?_
    have lh599 : lh Z (va_up M513 q14 (hw_ai Z 3 (va_up ff y ((hs_P S6 (y + 1) 1) + (hs_P S6 (y + 1) 2))))) ad S6 := (lp_w hC513 b513_q14)
    obtain ⟨T599, hP599⟩ := lh599
    have e599 : (va_up M513 q14 (hw_ai Z 3 (va_up ff y ((hs_P S6 (y + 1) 1) + (hs_P S6 (y + 1) 2))))) (ad 0 0) = hp_e0 Z ad S6 T599 0 := hP599.m 0 0 (by decide)
    refine hw_ci hI (hw_rV hx hb hml hown hts hk hI (m_X5_ofPiece_k l Z (va_up M513 q14 (hw_ai Z 3 (va_up ff y ((hs_P S6 (y + 1) 1) + (hs_P S6 (y + 1) 2))))) ad S6 T599 (hq_b ad) (y + 1) 13 hP599 g1.b hnp6 (by decide)) cv_L_46 e599 rfl rfl ⟨rfl, rfl⟩ ⟨(by first | exact Nat.le_of_ble_eq_true rfl | (show _ ≤ 600104; omega) | (show _ ≤ 7301314; omega) | omega), (by first | exact Nat.le_of_ble_eq_true rfl | (show _ ≤ 600104; omega) | (show _ ≤ 7301314; omega) | omega)⟩ rfl hl.1 rfl (by first | exact Nat.le_of_ble_eq_true rfl | (show _ ≤ 600104; omega) | (show _ ≤ 7301314; omega) | omega) ⟨(by first | exact Nat.le_of_ble_eq_true rfl | (show _ ≤ 600104; omega) | (show _ ≤ 7301314; omega) | omega), (by first | exact Nat.le_of_ble_eq_true rfl | (show _ ≤ 600104; omega) | (show _ ≤ 7301314; omega) | omega)⟩ dL_law_599) (fun r599 M599 H locs hR hI => ?_)
    obtain ⟨rfl, rfl⟩ := hR
    refine hw_ti g6' ?_
    refine lv_iconst (v := nI 3) hx hb dL_law_602 (by decide) ?_
    refine lv_icmp_gt (tgt := 624) hx hb dL_law_603 (by decide) (fun hc => absurd hc (nI_nlt (by omega) (by decide))) (fun _ => ?_)
    refine lv_aload_n hx hb dL_law_606 rfl (lv_at hl 4 rfl) ?_
    refine lv_iload hx hb dL_law_607 (lv_at hl 11 rfl) ?_
    refine lv_iconst (v := nI 1) hx hb dL_law_609 (by decide) ?_
    refine lv_iadd hx hb dL_law_610 ?_
    refine hw_ti (nI_add _ _) ?_
    refine lv_bipush (v := nI 12) hx hb dL_law_611 (by decide) ?_
    have lh613 : lh Z (va_up M513 q14 (hw_ai Z 3 (va_up ff y ((hs_P S6 (y + 1) 1) + (hs_P S6 (y + 1) 2))))) ad S6 := (lp_w hC513 b513_q14)
    obtain ⟨T613, hP613⟩ := lh613
    have e613 : (va_up M513 q14 (hw_ai Z 3 (va_up ff y ((hs_P S6 (y + 1) 1) + (hs_P S6 (y + 1) 2))))) (ad 0 0) = hp_e0 Z ad S6 T613 0 := hP613.m 0 0 (by decide)
    refine hw_ci hI (hw_rV hx hb hml hown hts hk hI (m_X5_ofPiece_k l Z (va_up M513 q14 (hw_ai Z 3 (va_up ff y ((hs_P S6 (y + 1) 1) + (hs_P S6 (y + 1) 2))))) ad S6 T613 (hq_b ad) (y + 1) 12 hP613 g1.b hnp6 (by decide)) cv_L_46 e613 rfl rfl ⟨rfl, rfl⟩ ⟨(by first | exact Nat.le_of_ble_eq_true rfl | (show _ ≤ 600104; omega) | (show _ ≤ 7301314; omega) | omega), (by first | exact Nat.le_of_ble_eq_true rfl | (show _ ≤ 600104; omega) | (show _ ≤ 7301314; omega) | omega)⟩ rfl hl.1 rfl (by first | exact Nat.le_of_ble_eq_true rfl | (show _ ≤ 600104; omega) | (show _ ≤ 7301314; omega) | omega) ⟨(by first | exact Nat.le_of_ble_eq_true rfl | (show _ ≤ 600104; omega) | (show _ ≤ 7301314; omega) | omega), (by first | exact Nat.le_of_ble_eq_true rfl | (show _ ≤ 600104; omega) | (show _ ≤ 7301314; omega) | omega)⟩ dL_law_613) (fun r613 M613 H locs hR hI => ?_)
    obtain ⟨rfl, rfl⟩ := hR
    refine hw_ti g7 ?_
    refine lv_aload hx hb dL_law_616 (lv_at hl 9 rfl) ?_
    refine lv_iload hx hb dL_law_618 (lv_at hl 11 rfl) ?_
    refine hw_iald hx hb hk hI (hw_up f513_q13 n34) (j := y) rfl hy3 (by decide) dL_law_620 ?_
    refine hw_ti hsp ?_
    refine lv_icmp_eq (tgt := 626) hx hb dL_law_621 (by decide) (fun _ => ?_) (fun hc => absurd rfl hc)
    refine lv_iinc (v := nI (y + 1)) (lv' := [(16, .int (nI (y + 1))), (15, .int (nI 0)), (0, .ref Z.2.2.2), (1, .int (nI i)), (2, .ref t), (3, .ref (ad 0 0)), (9, .int (nI h9)), (10, .int (nI w)), (11, .int (nI b)), (12, .ref q12), (13, .ref q13), (14, .ref q14), (17, .int (nI j)), (18, .int (nI (1 - j)))]) hx hb dL_law_626 hl (k := 11) rfl (hw_inc _) (by decide) rfl (fun ls hl => ?_)
    refine lv_goto (tgt := 351) hx hb dL_law_629 (by decide) ?_
    exact K _ _ _ _ _ _ S6 0 G6 _ hI g1 ⟨g2, g2'⟩ g2s (by decide) (fun h => absurd h (by decide)) (fun z hz => va_up_ne _ _ hz) (hw_up f513_t (hw_noa ht e14)) (hw_up f513_q12 (hw_naa e12 e14 (by intro h; cases h))) (hw_up f513_q13 n34) (hw_us _ _ _) (lp_w hC513 b513_q14) (lv_sub hl [2, 3, 4, 5, 6, 7, 8, 9, 10, 11, 1, 0] rfl) (by omega) (by omega)
  · refine lv_iconst (v := nI 1) hx hb dL_law_532 (by decide) ?_
    refine lv_goto (tgt := 537) hx hb dL_law_533 (by decide) ?_
    refine lv_iand hx hb dL_law_537 ?_
    refine hw_ti ((la_and hal).1) ?_
    refine lv_istore (lv' := [(15, .int (nI al)), (0, .ref Z.2.2.2), (1, .int (nI i)), (2, .ref t), (3, .ref (ad 0 0)), (9, .int (nI h9)), (10, .int (nI w)), (11, .int (nI b)), (12, .ref q12), (13, .ref q13), (14, .ref q14), (16, .int (nI y)), (17, .int (nI j)), (18, .int (nI (1 - j)))]) hx hb dL_law_538 hl (by decide) rfl (fun ls hl => ?_)
    refine lv_aload_n hx hb dL_law_540 rfl (lv_at hl 4 rfl) ?_
    refine lv_iload hx hb dL_law_541 (lv_at hl 12 rfl) ?_
    refine lv_iconst (v := nI 3) hx hb dL_law_543 (by decide) ?_
    have lh544 : lh Z (M513) ad S6 := hC513
    obtain ⟨T544, hP544⟩ := lh544
    have e544 : (M513) (ad 0 0) = hp_e0 Z ad S6 T544 0 := hP544.m 0 0 (by decide)
    refine hw_ci hI (hw_rV hx hb hml hown hts hk hI (m_X5_ofMachine_k l Z M513 ad S6 T544 (hq_b ad) j 3 hP544 g1.b hj2 (by decide)) cv_L_79 e544 rfl rfl ⟨rfl, rfl⟩ ⟨(by first | exact Nat.le_of_ble_eq_true rfl | (show _ ≤ 600104; omega) | (show _ ≤ 7301314; omega) | omega), (by first | exact Nat.le_of_ble_eq_true rfl | (show _ ≤ 600104; omega) | (show _ ≤ 7301314; omega) | omega)⟩ rfl hl.1 rfl (by first | exact Nat.le_of_ble_eq_true rfl | (show _ ≤ 600104; omega) | (show _ ≤ 7301314; omega) | omega) ⟨(by first | exact Nat.le_of_ble_eq_true rfl | (show _ ≤ 600104; omega) | (show _ ≤ 7301314; omega) | omega), (by first | exact Nat.le_of_ble_eq_true rfl | (show _ ≤ 600104; omega) | (show _ ≤ 7301314; omega) | omega)⟩ dL_law_544) (fun r544 M544 H locs hR hI => ?_)
    obtain ⟨rfl, rfl⟩ := hR
    refine hw_ti g3 ?_
    refine lv_if_lt (tgt := 552) hx hb dL_law_547 (by decide) (fun _ => ?_) (fun hc => absurd (by decide) hc)
    refine lv_aload hx hb dL_law_552 (lv_at hl 10 rfl) ?_
    refine lv_iload hx hb dL_law_554 (lv_at hl 11 rfl) ?_
    refine lv_aload_n hx hb dL_law_556 rfl (lv_at hl 4 rfl) ?_
    refine lv_iload hx hb dL_law_557 (lv_at hl 11 rfl) ?_
    refine lv_iconst (v := nI 1) hx hb dL_law_559 (by decide) ?_
    refine lv_iadd hx hb dL_law_560 ?_
    refine hw_ti (nI_add _ _) ?_
    refine lv_bipush (v := nI 7) hx hb dL_law_561 (by decide) ?_
    have lh563 : lh Z (M513) ad S6 := hC513
    obtain ⟨T563, hP563⟩ := lh563
    have e563 : (M513) (ad 0 0) = hp_e0 Z ad S6 T563 0 := hP563.m 0 0 (by decide)
    refine hw_ci hI (hw_rV hx hb hml hown hts hk hI (m_X5_ofPiece_k l Z M513 ad S6 T563 (hq_b ad) (y + 1) 7 hP563 g1.b hnp6 (by decide)) cv_L_46 e563 rfl rfl ⟨rfl, rfl⟩ ⟨(by first | exact Nat.le_of_ble_eq_true rfl | (show _ ≤ 600104; omega) | (show _ ≤ 7301314; omega) | omega), (by first | exact Nat.le_of_ble_eq_true rfl | (show _ ≤ 600104; omega) | (show _ ≤ 7301314; omega) | omega)⟩ rfl hl.1 rfl (by first | exact Nat.le_of_ble_eq_true rfl | (show _ ≤ 600104; omega) | (show _ ≤ 7301314; omega) | omega) ⟨(by first | exact Nat.le_of_ble_eq_true rfl | (show _ ≤ 600104; omega) | (show _ ≤ 7301314; omega) | omega), (by first | exact Nat.le_of_ble_eq_true rfl | (show _ ≤ 600104; omega) | (show _ ≤ 7301314; omega) | omega)⟩ dL_law_563) (fun r563 M563 H locs hR hI => ?_)
    obtain ⟨rfl, rfl⟩ := hR
    refine hw_ti rfl ?_
    refine lv_aload_n hx hb dL_law_566 rfl (lv_at hl 4 rfl) ?_
    refine lv_iload hx hb dL_law_567 (lv_at hl 11 rfl) ?_
    refine lv_iconst (v := nI 1) hx hb dL_law_569 (by decide) ?_
    refine lv_iadd hx hb dL_law_570 ?_
    refine hw_ti (nI_add _ _) ?_
    refine lv_bipush (v := nI 8) hx hb dL_law_571 (by decide) ?_
    have lh573 : lh Z (M513) ad S6 := hC513
    obtain ⟨T573, hP573⟩ := lh573
    have e573 : (M513) (ad 0 0) = hp_e0 Z ad S6 T573 0 := hP573.m 0 0 (by decide)
    refine hw_ci hI (hw_rV hx hb hml hown hts hk hI (m_X5_ofPiece_k l Z M513 ad S6 T573 (hq_b ad) (y + 1) 8 hP573 g1.b hnp6 (by decide)) cv_L_46 e573 rfl rfl ⟨rfl, rfl⟩ ⟨(by first | exact Nat.le_of_ble_eq_true rfl | (show _ ≤ 600104; omega) | (show _ ≤ 7301314; omega) | omega), (by first | exact Nat.le_of_ble_eq_true rfl | (show _ ≤ 600104; omega) | (show _ ≤ 7301314; omega) | omega)⟩ rfl hl.1 rfl (by first | exact Nat.le_of_ble_eq_true rfl | (show _ ≤ 600104; omega) | (show _ ≤ 7301314; omega) | omega) ⟨(by first | exact Nat.le_of_ble_eq_true rfl | (show _ ≤ 600104; omega) | (show _ ≤ 7301314; omega) | omega), (by first | exact Nat.le_of_ble_eq_true rfl | (show _ ≤ 600104; omega) | (show _ ≤ 7301314; omega) | omega)⟩ dL_law_573) (fun r573 M573 H locs hR hI => ?_)
    obtain ⟨rfl, rfl⟩ := hR
    refine hw_ti rfl ?_
    refine lv_iadd hx hb dL_law_576 ?_
    refine hw_iast hx hb hk hI f513_q14 (j := y) rfl hy3 (by decide) dL_law_577 (fun H locs hI => ?_)
    refine lv_aload_n hx hb dL_law_578 rfl (lv_at hl 4 rfl) ?_
    refine lv_iload hx hb dL_law_579 (lv_at hl 11 rfl) ?_
    refine lv_iconst (v := nI 1) hx hb dL_law_581 (by decide) ?_
    refine lv_iadd hx hb dL_law_582 ?_
    refine hw_ti (nI_add _ _) ?_
    refine lv_bipush (v := nI 14) hx hb dL_law_583 (by decide) ?_
    have lh585 : lh Z (va_up M513 q14 (hw_ai Z 3 (va_up ff y ((hs_P S6 (y + 1) 1) + (hs_P S6 (y + 1) 2))))) ad S6 := (lp_w hC513 b513_q14)
    obtain ⟨T585, hP585⟩ := lh585
    have e585 : (va_up M513 q14 (hw_ai Z 3 (va_up ff y ((hs_P S6 (y + 1) 1) + (hs_P S6 (y + 1) 2))))) (ad 0 0) = hp_e0 Z ad S6 T585 0 := hP585.m 0 0 (by decide)
    refine hw_ci hI (hw_rV hx hb hml hown hts hk hI (m_X5_ofPiece_k l Z (va_up M513 q14 (hw_ai Z 3 (va_up ff y ((hs_P S6 (y + 1) 1) + (hs_P S6 (y + 1) 2))))) ad S6 T585 (hq_b ad) (y + 1) 14 hP585 g1.b hnp6 (by decide)) cv_L_46 e585 rfl rfl ⟨rfl, rfl⟩ ⟨(by first | exact Nat.le_of_ble_eq_true rfl | (show _ ≤ 600104; omega) | (show _ ≤ 7301314; omega) | omega), (by first | exact Nat.le_of_ble_eq_true rfl | (show _ ≤ 600104; omega) | (show _ ≤ 7301314; omega) | omega)⟩ rfl hl.1 rfl (by first | exact Nat.le_of_ble_eq_true rfl | (show _ ≤ 600104; omega) | (show _ ≤ 7301314; omega) | omega) ⟨(by first | exact Nat.le_of_ble_eq_true rfl | (show _ ≤ 600104; omega) | (show _ ≤ 7301314; omega) | omega), (by first | exact Nat.le_of_ble_eq_true rfl | (show _ ≤ 600104; omega) | (show _ ≤ 7301314; omega) | omega)⟩ dL_law_585) (fun r585 M585 H locs hR hI => ?_)
    obtain ⟨rfl, rfl⟩ := hR
    refine hw_ti g5 ?_
    refine lv_iconst (v := nI 3) hx hb dL_law_588 (by decide) ?_
    refine lv_icmp_ne (tgt := 624) hx hb dL_law_589 (by decide) (fun hc => absurd rfl hc) (fun _ => ?_)
    refine lv_aload_n hx hb dL_law_592 rfl (lv_at hl 4 rfl) ?_
    refine lv_iload hx hb dL_law_593 (lv_at hl 11 rfl) ?_
    refine lv_iconst (v := nI 1) hx hb dL_law_595 (by decide) ?_
    refine lv_iadd hx hb dL_law_596 ?_
    refine hw_ti (nI_add _ _) ?_
    refine lv_bipush (v := nI 13) hx hb dL_law_597 (by decide) ?_
    have lh599 : lh Z (va_up M513 q14 (hw_ai Z 3 (va_up ff y ((hs_P S6 (y + 1) 1) + (hs_P S6 (y + 1) 2))))) ad S6 := (lp_w hC513 b513_q14)
    obtain ⟨T599, hP599⟩ := lh599
    have e599 : (va_up M513 q14 (hw_ai Z 3 (va_up ff y ((hs_P S6 (y + 1) 1) + (hs_P S6 (y + 1) 2))))) (ad 0 0) = hp_e0 Z ad S6 T599 0 := hP599.m 0 0 (by decide)
    refine hw_ci hI (hw_rV hx hb hml hown hts hk hI (m_X5_ofPiece_k l Z (va_up M513 q14 (hw_ai Z 3 (va_up ff y ((hs_P S6 (y + 1) 1) + (hs_P S6 (y + 1) 2))))) ad S6 T599 (hq_b ad) (y + 1) 13 hP599 g1.b hnp6 (by decide)) cv_L_46 e599 rfl rfl ⟨rfl, rfl⟩ ⟨(by first | exact Nat.le_of_ble_eq_true rfl | (show _ ≤ 600104; omega) | (show _ ≤ 7301314; omega) | omega), (by first | exact Nat.le_of_ble_eq_true rfl | (show _ ≤ 600104; omega) | (show _ ≤ 7301314; omega) | omega)⟩ rfl hl.1 rfl (by first | exact Nat.le_of_ble_eq_true rfl | (show _ ≤ 600104; omega) | (show _ ≤ 7301314; omega) | omega) ⟨(by first | exact Nat.le_of_ble_eq_true rfl | (show _ ≤ 600104; omega) | (show _ ≤ 7301314; omega) | omega), (by first | exact Nat.le_of_ble_eq_true rfl | (show _ ≤ 600104; omega) | (show _ ≤ 7301314; omega) | omega)⟩ dL_law_599) (fun r599 M599 H locs hR hI => ?_)
    obtain ⟨rfl, rfl⟩ := hR
    refine hw_ti g6' ?_
    refine lv_iconst (v := nI 3) hx hb dL_law_602 (by decide) ?_
    refine lv_icmp_gt (tgt := 624) hx hb dL_law_603 (by decide) (fun hc => absurd hc (nI_nlt (by omega) (by decide))) (fun _ => ?_)
    refine lv_aload_n hx hb dL_law_606 rfl (lv_at hl 4 rfl) ?_
    refine lv_iload hx hb dL_law_607 (lv_at hl 11 rfl) ?_
    refine lv_iconst (v := nI 1) hx hb dL_law_609 (by decide) ?_
    refine lv_iadd hx hb dL_law_610 ?_
    refine hw_ti (nI_add _ _) ?_
    refine lv_bipush (v := nI 12) hx hb dL_law_611 (by decide) ?_
    have lh613 : lh Z (va_up M513 q14 (hw_ai Z 3 (va_up ff y ((hs_P S6 (y + 1) 1) + (hs_P S6 (y + 1) 2))))) ad S6 := (lp_w hC513 b513_q14)
    obtain ⟨T613, hP613⟩ := lh613
    have e613 : (va_up M513 q14 (hw_ai Z 3 (va_up ff y ((hs_P S6 (y + 1) 1) + (hs_P S6 (y + 1) 2))))) (ad 0 0) = hp_e0 Z ad S6 T613 0 := hP613.m 0 0 (by decide)
    refine hw_ci hI (hw_rV hx hb hml hown hts hk hI (m_X5_ofPiece_k l Z (va_up M513 q14 (hw_ai Z 3 (va_up ff y ((hs_P S6 (y + 1) 1) + (hs_P S6 (y + 1) 2))))) ad S6 T613 (hq_b ad) (y + 1) 12 hP613 g1.b hnp6 (by decide)) cv_L_46 e613 rfl rfl ⟨rfl, rfl⟩ ⟨(by first | exact Nat.le_of_ble_eq_true rfl | (show _ ≤ 600104; omega) | (show _ ≤ 7301314; omega) | omega), (by first | exact Nat.le_of_ble_eq_true rfl | (show _ ≤ 600104; omega) | (show _ ≤ 7301314; omega) | omega)⟩ rfl hl.1 rfl (by first | exact Nat.le_of_ble_eq_true rfl | (show _ ≤ 600104; omega) | (show _ ≤ 7301314; omega) | omega) ⟨(by first | exact Nat.le_of_ble_eq_true rfl | (show _ ≤ 600104; omega) | (show _ ≤ 7301314; omega) | omega), (by first | exact Nat.le_of_ble_eq_true rfl | (show _ ≤ 600104; omega) | (show _ ≤ 7301314; omega) | omega)⟩ dL_law_613) (fun r613 M613 H locs hR hI => ?_)
    obtain ⟨rfl, rfl⟩ := hR
    refine hw_ti g7 ?_
    refine lv_aload hx hb dL_law_616 (lv_at hl 9 rfl) ?_
    refine lv_iload hx hb dL_law_618 (lv_at hl 11 rfl) ?_
    refine hw_iald hx hb hk hI (hw_up f513_q13 n34) (j := y) rfl hy3 (by decide) dL_law_620 ?_
    refine hw_ti hsp ?_
    refine lv_icmp_eq (tgt := 626) hx hb dL_law_621 (by decide) (fun _ => ?_) (fun hc => absurd rfl hc)
    refine lv_iinc (v := nI (y + 1)) (lv' := [(16, .int (nI (y + 1))), (15, .int (nI al)), (0, .ref Z.2.2.2), (1, .int (nI i)), (2, .ref t), (3, .ref (ad 0 0)), (9, .int (nI h9)), (10, .int (nI w)), (11, .int (nI b)), (12, .ref q12), (13, .ref q13), (14, .ref q14), (17, .int (nI j)), (18, .int (nI (1 - j)))]) hx hb dL_law_626 hl (k := 11) rfl (hw_inc _) (by decide) rfl (fun ls hl => ?_)
    refine lv_goto (tgt := 351) hx hb dL_law_629 (by decide) ?_
    exact K _ _ _ _ _ _ S6 al G6 _ hI g1 ⟨g2, g2'⟩ g2s hal (fun h => ⟨h, (va_up_self _ _ _).trans (g4 c529)⟩) (fun z hz => va_up_ne _ _ hz) (hw_up f513_t (hw_noa ht e14)) (hw_up f513_q12 (hw_naa e12 e14 (by intro h; cases h))) (hw_up f513_q13 n34) (hw_us _ _ _) (lp_w hC513 b513_q14) (lv_sub hl [2, 3, 4, 5, 6, 7, 8, 9, 10, 11, 1, 0] rfl) (by omega) (by omega)
