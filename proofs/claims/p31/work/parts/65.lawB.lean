theorem cv_L_30 : hw_CV RL 30 yX5_bestWay cX5_bestWay 9 (some .int) 1 := ⟨cb_X5_bestWay _ _, (hw_win (w := .methodLink RL 30 yX5_bestWay) (by decide +kernel) (by decide +kernel)), (hw_win (w := .instanceMethod yX5_bestWay) (by decide +kernel) (by decide +kernel)), (hw_win (w := .selects yX5_bestWay.cls yX5_bestWay yX5_bestWay) (by decide +kernel) (by decide +kernel))⟩
theorem cb_X5_digest (own : String) (index : Nat) : hw_CB own index yX5_digest cX5_digest 5 (some .long) 0 := ⟨⟨by decide +kernel, by decide +kernel, by decide +kernel⟩, (hw_win (w := .code yX5_digest cX5_digest 5 (some .long)) (by decide +kernel) (by decide +kernel)), (hw_win (w := .initialized yX5_digest.cls) (by decide +kernel) (by decide +kernel))⟩
theorem cv_L_35 : hw_CV RL 35 yX5_digest cX5_digest 5 (some .long) 0 := ⟨cb_X5_digest _ _, (hw_win (w := .methodLink RL 35 yX5_digest) (by decide +kernel) (by decide +kernel)), (hw_win (w := .instanceMethod yX5_digest) (by decide +kernel) (by decide +kernel)), (hw_win (w := .selects yX5_digest.cls yX5_digest yX5_digest) (by decide +kernel) (by decide +kernel))⟩
theorem cb_X5_wouldHold (own : String) (index : Nat) : hw_CB own index yX5_wouldHold cX5_wouldHold 4 (some .int) 2 := ⟨⟨by decide +kernel, by decide +kernel, by decide +kernel⟩, (hw_win (w := .code yX5_wouldHold cX5_wouldHold 4 (some .int)) (by decide +kernel) (by decide +kernel)), (hw_win (w := .initialized yX5_wouldHold.cls) (by decide +kernel) (by decide +kernel))⟩
theorem cv_L_39 : hw_CV RL 39 yX5_wouldHold cX5_wouldHold 4 (some .int) 2 := ⟨cb_X5_wouldHold _ _, (hw_win (w := .methodLink RL 39 yX5_wouldHold) (by decide +kernel) (by decide +kernel)), (hw_win (w := .instanceMethod yX5_wouldHold) (by decide +kernel) (by decide +kernel)), (hw_win (w := .selects yX5_wouldHold.cls yX5_wouldHold yX5_wouldHold) (by decide +kernel) (by decide +kernel))⟩
theorem cb_X5_lay (own : String) (index : Nat) : hw_CB own index yX5_lay cX5_lay 4 (some .int) 2 := ⟨⟨by decide +kernel, by decide +kernel, by decide +kernel⟩, (hw_win (w := .code yX5_lay cX5_lay 4 (some .int)) (by decide +kernel) (by decide +kernel)), (hw_win (w := .initialized yX5_lay.cls) (by decide +kernel) (by decide +kernel))⟩
theorem cv_L_43 : hw_CV RL 43 yX5_lay cX5_lay 4 (some .int) 2 := ⟨cb_X5_lay _ _, (hw_win (w := .methodLink RL 43 yX5_lay) (by decide +kernel) (by decide +kernel)), (hw_win (w := .instanceMethod yX5_lay) (by decide +kernel) (by decide +kernel)), (hw_win (w := .selects yX5_lay.cls yX5_lay yX5_lay) (by decide +kernel) (by decide +kernel))⟩
theorem cv_L_46 : hw_CV RL 46 yX5_ofPiece cX5_ofPiece 4 (some .int) 2 := ⟨cb_X5_ofPiece _ _, (hw_win (w := .methodLink RL 46 yX5_ofPiece) (by decide +kernel) (by decide +kernel)), (hw_win (w := .instanceMethod yX5_ofPiece) (by decide +kernel) (by decide +kernel)), (hw_win (w := .selects yX5_ofPiece.cls yX5_ofPiece yX5_ofPiece) (by decide +kernel) (by decide +kernel))⟩
set_option maxHeartbeats 4000000 in
set_option maxRecDepth 100000 in
theorem sg_B1 {p : Program} {l : Launch} {e : Env} {s : State} {m : MethodId} {below : List Frame} {meth : Method} {c : Code} {H : Heap} {locs : List Loc} {cells slots : Nat} {Q : State → Prop} {ls : Array Slot} {Z : hw_Z} {M : hw_M} {i : Nat} {ad : hp_ad} {t d : Nat} {C : Nat → Int64} {v3 v4 v5 v6 v7 v8 v9 v10 : Value} (hst : l.stackTraces = false) (CX : lw_cx p s m c Z) (hI : hw_iv Z s M H locs) (ht : M t = hw_ob 0 [.ref (ad 0 0), .ref Z.2.2.2, .int (nI d), v3, v4, v5, v6, v7, v8, v9, v10]) (hh : lh Z M ad (sA C)) (hC0 : ¬ C 0 = 0) (hd : d ≤ 200) (hl : lv_has ls 19 [(0, .ref Z.2.2.2), (1, .int (nI i)), (2, .ref t), (3, .ref (ad 0 0))]) (hc9 : cells + 3000 ≤ 600104) (hs9 : slots + 60000 ≤ 7301314)
    (K : ∀ (M1 : hw_M) (H1 : Heap) (locs1 : List Loc) (cells1 slots1 : Nat) (ls1 : Array Slot) (q w d1 : Nat) (f : Nat → Int32), hw_iv Z s M1 H1 locs1 → (w < 6) → (M1 t = hw_ob 0 [.ref (ad 0 0), .ref Z.2.2.2, .int (nI d1), v3, v4, v5, v6, v7, v8, v9, v10]) → (M1 q = hw_ai Z 6 f) → (lh Z M1 ad (sA C)) → (∀ q, q < 6 → f q = nI (hb_ws C q)) → (hq_b ad q) → (d1 ≤ d + 2) → lv_has ls1 19 [(0, .ref Z.2.2.2), (1, .int (nI i)), (2, .ref t), (3, .ref (ad 0 0)), (4, .int (nI (hb_bw C 5))), (5, .ref q)] → cells1 ≤ cells + 3000 → slots1 ≤ slots + 60000 → W p l e room_1 s m #[Value.ref Z.2.2.2] below meth c H1 locs1 cells1 slots1 Q (F0 m 155 ls1 [.int (nI w)])) :
    W p l e room_1 s m #[Value.ref Z.2.2.2] below meth c H locs cells slots Q (F0 m 77 ls []) := by
  obtain ⟨hx, hb, hml, hown, hts, hk⟩ := CX
  have hbt : hq_b ad t := lp_0 hh ht ⟨_, rfl⟩
  refine lv_aload_n hx hb dL_law_77 rfl (lv_at hl 3 rfl) ?_
  refine lv_iconst (v := nI 0) hx hb dL_law_78 (by decide) ?_
  have lh79 : lh Z (M) ad (sA C) := hh
  obtain ⟨T79, hP79⟩ := lh79
  have e79 : (M) (ad 0 0) = hp_e0 Z ad (sA C) T79 0 := hP79.m 0 0 (by decide)
  refine hw_ci hI (hw_rV hx hb hml hown hts hk hI (m_X5_bestWay_k l Z M ad (sA C) T79 (hq_b ad) 0 hP79 (sA_v _).b (show 0 < 1 by decide)) cv_L_30 e79 rfl rfl ⟨rfl, rfl⟩ ⟨(by first | exact Nat.le_of_ble_eq_true rfl | (show _ ≤ 600104; omega) | (show _ ≤ 7301314; omega) | omega), (by first | exact Nat.le_of_ble_eq_true rfl | (show _ ≤ 600104; omega) | (show _ ≤ 7301314; omega) | omega)⟩ rfl hl.1 rfl (by first | exact Nat.le_of_ble_eq_true rfl | (show _ ≤ 600104; omega) | (show _ ≤ 7301314; omega) | omega) ⟨(by first | exact Nat.le_of_ble_eq_true rfl | (show _ ≤ 600104; omega) | (show _ ≤ 7301314; omega) | omega), (by first | exact Nat.le_of_ble_eq_true rfl | (show _ ≤ 600104; omega) | (show _ ≤ 7301314; omega) | omega)⟩ dL_law_79) (fun r79 M79 H locs hR hI => ?_)
  obtain ⟨rfl, hC79, hF79⟩ := lt hR
  have b79_t : hq_b ad t := hbt
  have f79_t : M79 t = hw_ob 0 [.ref (ad 0 0), .ref Z.2.2.2, .int (nI d), v3, v4, v5, v6, v7, v8, v9, v10] := (hF79 _ b79_t).trans ht
  refine hw_ti (by rw [sA_C]) ?_
  refine lv_istore (lv' := [(4, .int (nI (hb_bw C 5))), (0, .ref Z.2.2.2), (1, .int (nI i)), (2, .ref t), (3, .ref (ad 0 0))]) hx hb dL_law_82 hl (by decide) rfl (fun ls hl => ?_)
  refine lv_bipush (v := nI 6) hx hb dL_law_84 (by decide) ?_
  refine hw_newa (a0 := (6, .inl (fun _ => 0))) hx hb hts hk hI (atype := .int) (hw_win (w := .arrayClass .int) (by decide +kernel) (by decide +kernel)) rfl 0 rfl (fun _ h => by cases h) (fun _ => rfl) rfl (by decide) (by decide) (by first | exact Nat.le_of_ble_eq_true rfl | (show _ ≤ 600104; omega) | (show _ ≤ 7301314; omega) | omega) (by first | exact Nat.le_of_ble_eq_true rfl | (show _ ≤ 600104; omega) | (show _ ≤ 7301314; omega) | omega) dL_law_86 (fun q86 H hq86 hI => ?_)
  refine lv_astore (lv' := [(5, .ref q86), (4, .int (nI (hb_bw C 5))), (0, .ref Z.2.2.2), (1, .int (nI i)), (2, .ref t), (3, .ref (ad 0 0))]) hx hb dL_law_88 hl (by decide) rfl (fun ls hl => ?_)
  refine lv_aload_n hx hb dL_law_90 rfl (lv_at hl 5 rfl) ?_
  have lh91 : lh Z (va_up M79 q86 (hw_ai Z 6 (fun _ => 0))) ad (sA C) := (lp_w hC79 (lp_b hC79 hq86))
  obtain ⟨T91, hP91⟩ := lh91
  have e91 : (va_up M79 q86 (hw_ai Z 6 (fun _ => 0))) (ad 0 0) = hp_e0 Z ad (sA C) T91 0 := hP91.m 0 0 (by decide)
  refine hw_cl' hI (hw_rV hx hb hml hown hts hk hI (m_X5_digest l Z (va_up M79 q86 (hw_ai Z 6 (fun _ => 0))) ad (sA C) T91 (hq_b ad)  hP91 (sA_v _).b) cv_L_35 e91 rfl rfl ⟨rfl, rfl⟩ ⟨(by first | exact Nat.le_of_ble_eq_true rfl | (show _ ≤ 600104; omega) | (show _ ≤ 7301314; omega) | omega), (by first | exact Nat.le_of_ble_eq_true rfl | (show _ ≤ 600104; omega) | (show _ ≤ 7301314; omega) | omega)⟩ rfl hl.1 rfl (by first | exact Nat.le_of_ble_eq_true rfl | (show _ ≤ 600104; omega) | (show _ ≤ 7301314; omega) | omega) ⟨(by first | exact Nat.le_of_ble_eq_true rfl | (show _ ≤ 600104; omega) | (show _ ≤ 7301314; omega) | omega), (by first | exact Nat.le_of_ble_eq_true rfl | (show _ ≤ 600104; omega) | (show _ ≤ 7301314; omega) | omega)⟩ dL_law_91) (fun r91 M91 H locs hR hI => ?_)
  obtain ⟨rfl, hC91, hF91⟩ := lt hR
  have b91_t : hq_b ad t := b79_t
  have f91_t : M91 t = hw_ob 0 [.ref (ad 0 0), .ref Z.2.2.2, .int (nI d), v3, v4, v5, v6, v7, v8, v9, v10] := (hF91 _ b91_t).trans (hw_up f79_t (hw_nn f79_t hq86))
  have b91_q86 : hq_b ad q86 := (lp_b hC79 hq86)
  have f91_q86 : M91 q86 = hw_ai Z 6 (fun _ => 0) := (hF91 _ b91_q86).trans (hw_us _ _ _)
  refine lv_lstore (lv' := [(6, .long (st_digest (sA C))), (5, .ref q86), (4, .int (nI (hb_bw C 5))), (0, .ref Z.2.2.2), (1, .int (nI i)), (2, .ref t), (3, .ref (ad 0 0))]) hx hb dL_law_94 hl (by decide) rfl (fun ls hl => ?_)
  refine lv_iconst (v := nI 0) hx hb dL_law_96 (by decide) ?_
  refine lv_istore (lv' := [(8, .int (nI 0)), (6, .long (st_digest (sA C))), (5, .ref q86), (4, .int (nI (hb_bw C 5))), (0, .ref Z.2.2.2), (1, .int (nI i)), (2, .ref t), (3, .ref (ad 0 0))]) hx hb dL_law_97 hl (by decide) rfl (fun ls hl => ?_)
  refine hw_wr (cells1 := (cells + 6 * 0 + 1)) (slots1 := (slots + 36 * 0 + 6)) (by omega) (by omega) ?_
  have hbw : hq_b ad q86 := b91_q86
  have hh99 : lh Z (M91) ad (sA C) := hC91
  suffices LP99 : ∀ v, v ≤ 6 → ∀ (M5 : hw_M) (f5 : Nat → Int32) (hM5 : M5 t = hw_ob 0 [.ref (ad 0 0), .ref Z.2.2.2, .int (nI d), v3, v4, v5, v6, v7, v8, v9, v10]) (hw5 : M5 q86 = hw_ai Z 6 f5) (hh5 : lh Z M5 ad (sA C)) (hf5 : ∀ q, q < v → f5 q = nI (hb_ws C q)) (H : Heap) (locs : List Loc) (ls : Array Slot), hw_iv Z s (M5) H locs → lv_has ls 19 [(8, .int (nI v)), (0, .ref Z.2.2.2), (1, .int (nI i)), (2, .ref t), (3, .ref (ad 0 0)), (4, .int (nI (hb_bw C 5))), (5, .ref q86), (6, .long (st_digest (sA C)))] → W p l e room_1 s m #[Value.ref Z.2.2.2] below meth c H locs (cells + 6 * v + 1) (slots + 36 * v + 6) Q (F0 m 99 ls []) from LP99 0 (by omega) M91 _ f91_t f91_q86 hh99 (fun _ h => absurd h (Nat.not_lt_zero _)) _ _ _ hI (lv_sub hl [0, 4, 5, 6, 7, 3, 2, 1] rfl)
  refine hw_loop ?_ (fun v hi99 ih99 => ?_)
  · intro M5 f5 hM5 hw5 hh5 hf5 H locs ls hI hl
    refine lv_iload hx hb dL_law_99 (lv_at hl 0 rfl) ?_
    refine lv_bipush (v := nI 6) hx hb dL_law_101 (by decide) ?_
    refine lv_icmp_ge (tgt := 124) hx hb dL_law_103 (by decide) (fun _ => ?_) (fun hc => absurd (Int32.le_refl _) hc)
    refine lv_aload_n hx hb dL_law_124 rfl (lv_at hl 4 rfl) ?_
    have lh125 : lh Z (M5) ad (sA C) := hh5
    obtain ⟨T125, hP125⟩ := lh125
    have e125 : (M5) (ad 0 0) = hp_e0 Z ad (sA C) T125 0 := hP125.m 0 0 (by decide)
    refine hw_cl' hI (hw_rV hx hb hml hown hts hk hI (m_X5_digest l Z M5 ad (sA C) T125 (hq_b ad)  hP125 (sA_v _).b) cv_L_35 e125 rfl rfl ⟨rfl, rfl⟩ ⟨(by first | exact Nat.le_of_ble_eq_true rfl | (show _ ≤ 600104; omega) | (show _ ≤ 7301314; omega) | omega), (by first | exact Nat.le_of_ble_eq_true rfl | (show _ ≤ 600104; omega) | (show _ ≤ 7301314; omega) | omega)⟩ rfl hl.1 rfl (by first | exact Nat.le_of_ble_eq_true rfl | (show _ ≤ 600104; omega) | (show _ ≤ 7301314; omega) | omega) ⟨(by first | exact Nat.le_of_ble_eq_true rfl | (show _ ≤ 600104; omega) | (show _ ≤ 7301314; omega) | omega), (by first | exact Nat.le_of_ble_eq_true rfl | (show _ ≤ 600104; omega) | (show _ ≤ 7301314; omega) | omega)⟩ dL_law_125) (fun r125 M125 H locs hR hI => ?_)
    obtain ⟨rfl, hC125, hF125⟩ := lt hR
    have b125_t : hq_b ad t := hbt
    have f125_t : M125 t = hw_ob 0 [.ref (ad 0 0), .ref Z.2.2.2, .int (nI d), v3, v4, v5, v6, v7, v8, v9, v10] := (hF125 _ b125_t).trans hM5
    have b125_q86 : hq_b ad q86 := hbw
    have f125_q86 : M125 q86 = hw_ai Z 6 f5 := (hF125 _ b125_q86).trans hw5
    refine lv_lload hx hb dL_law_128 (lv_at hl 7 rfl) ?_
    refine W.lcmp hx hb dL_law_130 ?_
    refine lv_if_eq (tgt := 136) hx hb dL_law_131 (by decide) (fun _ => ?_) (fun hc => absurd ((lg_cmp_eq _ _).mpr rfl) hc)
    refine lv_aload_n hx hb dL_law_136 rfl (lv_at hl 3 rfl) ?_
    refine lv_iconst (v := nI 2) hx hb dL_law_137 (by decide) ?_
    refine hw_ci hI (hw_rV hx hb hml hown hts hk hI (m_X6_draw l Z M125 t d (.ref (ad 0 0)) v3 v4 v5 v6 v7 v8 v9 v10 2 f125_t (by decide) (by decide) (by omega)) cv_L_22 f125_t rfl rfl ⟨rfl, rfl⟩ ⟨(by first | exact Nat.le_of_ble_eq_true rfl | (show _ ≤ 600104; omega) | (show _ ≤ 7301314; omega) | omega), (by first | exact Nat.le_of_ble_eq_true rfl | (show _ ≤ 600104; omega) | (show _ ≤ 7301314; omega) | omega)⟩ rfl hl.1 rfl (by first | exact Nat.le_of_ble_eq_true rfl | (show _ ≤ 600104; omega) | (show _ ≤ 7301314; omega) | omega) ⟨(by first | exact Nat.le_of_ble_eq_true rfl | (show _ ≤ 600104; omega) | (show _ ≤ 7301314; omega) | omega), (by first | exact Nat.le_of_ble_eq_true rfl | (show _ ≤ 600104; omega) | (show _ ≤ 7301314; omega) | omega)⟩ dL_law_138) (fun r138 M138 H locs hR hI => ?_)
    obtain ⟨j138, hj138, rfl, rfl⟩ := hR
    refine lv_if_ne (tgt := 149) hx hb dL_law_141 (by decide) (fun c141 => ?_) (fun c141 => ?_)
    · refine lv_aload_n hx hb dL_law_149 rfl (lv_at hl 3 rfl) ?_
      refine lv_bipush (v := nI 6) hx hb dL_law_150 (by decide) ?_
      refine hw_ci hI (hw_rV hx hb hml hown hts hk hI (m_X6_draw l Z (va_up M125 t (hw_ob 0 [.ref (ad 0 0), .ref Z.2.2.2, .int (nI (d + 1)), v3, v4, v5, v6, v7, v8, v9, v10])) t (d + 1) (.ref (ad 0 0)) v3 v4 v5 v6 v7 v8 v9 v10 6 (hw_us _ _ _) (by decide) (by decide) (by omega)) cv_L_22 (hw_us _ _ _) rfl rfl ⟨rfl, rfl⟩ ⟨(by first | exact Nat.le_of_ble_eq_true rfl | (show _ ≤ 600104; omega) | (show _ ≤ 7301314; omega) | omega), (by first | exact Nat.le_of_ble_eq_true rfl | (show _ ≤ 600104; omega) | (show _ ≤ 7301314; omega) | omega)⟩ rfl hl.1 rfl (by first | exact Nat.le_of_ble_eq_true rfl | (show _ ≤ 600104; omega) | (show _ ≤ 7301314; omega) | omega) ⟨(by first | exact Nat.le_of_ble_eq_true rfl | (show _ ≤ 600104; omega) | (show _ ≤ 7301314; omega) | omega), (by first | exact Nat.le_of_ble_eq_true rfl | (show _ ≤ 600104; omega) | (show _ ≤ 7301314; omega) | omega)⟩ dL_law_152) (fun r152 M152 H locs hR hI => ?_)
      obtain ⟨j152, hj152, rfl, rfl⟩ := hR
      exact K _ _ _ _ _ _ q86 j152 ((d + 1) + 1) f5 hI (by omega) (hw_us _ _ _) (hw_up (hw_up f125_q86 (Ne.symm (hw_noa hM5 hw5))) (Ne.symm (hw_noa hM5 hw5))) (lp_w (lp_w hC125 b125_t) b125_t) hf5 b125_q86 (by omega) (lv_sub hl [1, 2, 3, 4, 5, 6] rfl) (by omega) (by omega)
    · refine lv_iload hx hb dL_law_144 (lv_at hl 5 rfl) ?_
      refine lv_goto (tgt := 155) hx hb dL_law_146 (by decide) ?_
      exact K _ _ _ _ _ _ q86 (hb_bw C 5) (d + 1) f5 hI (Nat.lt_of_le_of_lt (lb_bw C 5) (by decide)) (hw_us _ _ _) (hw_up f125_q86 (Ne.symm (hw_noa hM5 hw5))) (lp_w hC125 b125_t) hf5 b125_q86 (by omega) (lv_sub hl [1, 2, 3, 4, 5, 6] rfl) (by omega) (by omega)
  · intro M5 f5 hM5 hw5 hh5 hf5 H locs ls hI hl
    refine lv_iload hx hb dL_law_99 (lv_at hl 0 rfl) ?_
    refine lv_bipush (v := nI 6) hx hb dL_law_101 (by decide) ?_
    refine lv_icmp_ge (tgt := 124) hx hb dL_law_103 (by decide) (fun hc => absurd hc (nI_ge hi99 (by decide))) (fun _ => ?_)
    refine lv_aload hx hb dL_law_106 (lv_at hl 6 rfl) ?_
    refine lv_iload hx hb dL_law_108 (lv_at hl 0 rfl) ?_
    refine lv_aload_n hx hb dL_law_110 rfl (lv_at hl 4 rfl) ?_
    refine lv_iconst (v := nI 0) hx hb dL_law_111 (by decide) ?_
    refine lv_iload hx hb dL_law_112 (lv_at hl 0 rfl) ?_
    have lh114 : lh Z (M5) ad (sA C) := hh5
    obtain ⟨T114, hP114⟩ := lh114
    have e114 : (M5) (ad 0 0) = hp_e0 Z ad (sA C) T114 0 := hP114.m 0 0 (by decide)
    refine hw_yi hI (hw_xV hx hb hml hown hts hk hI (m_X5_wouldHold l hst Z M5 ad (sA C) T114 (hq_b ad) (nI 0) (nI v) hP114 (sA_v _).b) cv_L_39 e114 rfl rfl ⟨rfl, rfl⟩ ⟨(by first | exact Nat.le_of_ble_eq_true rfl | (show _ ≤ 600104; omega) | (show _ ≤ 7301314; omega) | omega), (by first | exact Nat.le_of_ble_eq_true rfl | (show _ ≤ 600104; omega) | (show _ ≤ 7301314; omega) | omega)⟩ rfl hl.1 rfl (by first | exact Nat.le_of_ble_eq_true rfl | (show _ ≤ 600104; omega) | (show _ ≤ 7301314; omega) | omega) ⟨(by first | exact Nat.le_of_ble_eq_true rfl | (show _ ≤ 600104; omega) | (show _ ≤ 7301314; omega) | omega), (by first | exact Nat.le_of_ble_eq_true rfl | (show _ ≤ 600104; omega) | (show _ ≤ 7301314; omega) | omega)⟩ dL_law_114) (fun _ _ _ _ _ _ _ hX9 _ _ _ => lx (ls_wh C hi99) hX9) (fun r114 M114 H locs hR hI => ?_)
    obtain ⟨rfl, hC114, hF114⟩ := lr (ls_wh C hi99) hR
    have b114_t : hq_b ad t := hbt
    have f114_t : M114 t = hw_ob 0 [.ref (ad 0 0), .ref Z.2.2.2, .int (nI d), v3, v4, v5, v6, v7, v8, v9, v10] := (hF114 _ b114_t).trans hM5
    have b114_q86 : hq_b ad q86 := hbw
    have f114_q86 : M114 q86 = hw_ai Z 6 f5 := (hF114 _ b114_q86).trans hw5
    refine hw_iast hx hb hk hI f114_q86 (j := v) rfl (by omega) (by decide) dL_law_117 (fun H locs hI => ?_)
    refine lv_iinc (v := nI (v + 1)) (lv' := [(8, .int (nI (v + 1))), (0, .ref Z.2.2.2), (1, .int (nI i)), (2, .ref t), (3, .ref (ad 0 0)), (4, .int (nI (hb_bw C 5))), (5, .ref q86), (6, .long (st_digest (sA C)))]) hx hb dL_law_118 hl (k := 0) rfl (hw_inc _) (by decide) rfl (fun ls hl => ?_)
    refine lv_goto (tgt := 99) hx hb dL_law_121 (by decide) ?_
    refine W.widen (k := (cells + 6 * (v + 1) + 1)) (n := (slots + 36 * (v + 1) + 6)) (by omega) (by omega) ?_
    exact ih99 (va_up M114 q86 (hw_ai Z 6 (va_up f5 v (nI (hb_ws C v))))) _ (hw_up f114_t (hw_noa hM5 hw5)) (hw_us _ _ _) (lp_w hC114 b114_q86) (fun q hq => by
      by_cases e9 : q = v
      · subst e9; exact va_up_self _ _ _
      · exact (va_up_ne _ _ e9).trans (hf5 q (by omega))) _ _ _ hI (lv_sub hl [0, 1, 2, 3, 4, 5, 6, 7] rfl)

set_option maxHeartbeats 4000000 in
set_option maxRecDepth 100000 in
theorem sg_B2 {p : Program} {l : Launch} {e : Env} {s : State} {m : MethodId} {below : List Frame} {meth : Method} {c : Code} {H : Heap} {locs : List Loc} {cells slots : Nat} {Q : State → Prop} {ls : Array Slot} {Z : hw_Z} {M : hw_M} {i q w : Nat} {f : Nat → Int32} {ad : hp_ad} {t d : Nat} {C : Nat → Int64} {v3 v4 v5 v6 v7 v8 v9 v10 : Value} (hst : l.stackTraces = false) (CX : lw_cx p s m c Z) (hI : hw_iv Z s M H locs) (hw6 : w < 6) (ht : M t = hw_ob 0 [.ref (ad 0 0), .ref Z.2.2.2, .int (nI d), v3, v4, v5, v6, v7, v8, v9, v10]) (hwo : M q = hw_ai Z 6 f) (hh : lh Z M ad (sA C)) (hf : ∀ q, q < 6 → f q = nI (hb_ws C q)) (hC0 : ¬ C 0 = 0) (hbw : hq_b ad q) (hl : lv_has ls 19 [(0, .ref Z.2.2.2), (1, .int (nI i)), (2, .ref t), (3, .ref (ad 0 0)), (4, .int (nI (hb_bw C 5))), (5, .ref q)]) (hc9 : cells + 3000 ≤ 600104) (hs9 : slots + 60000 ≤ 7301314)
    (K : ∀ (M1 : hw_M) (H1 : Heap) (locs1 : List Loc) (cells1 slots1 : Nat) (ls1 : Array Slot), hw_iv Z s M1 H1 locs1 → (M1 t = hw_ob 0 [.ref (ad 0 0), .ref Z.2.2.2, .int (nI d), v3, v4, v5, v6, v7, v8, v9, v10]) → (lh Z M1 ad (sA (hb_laid C w))) → lv_has ls1 19 [(0, .ref Z.2.2.2), (1, .int (nI i)), (2, .ref t), (3, .ref (ad 0 0)), (9, .int (nI (hb_ht (hb_laid C w) 8)))] → cells1 ≤ cells + 3000 → slots1 ≤ slots + 60000 → W p l e room_1 s m #[Value.ref Z.2.2.2] below meth c H1 locs1 cells1 slots1 Q (F0 m 214 ls1 [])) :
    W p l e room_1 s m #[Value.ref Z.2.2.2] below meth c H locs cells slots Q (F0 m 155 ls [.int (nI w)]) := by
  obtain ⟨hx, hb, hml, hown, hts, hk⟩ := CX
  have hbt : hq_b ad t := lp_0 hh ht ⟨_, rfl⟩
  refine lv_istore (lv' := [(8, .int (nI w)), (0, .ref Z.2.2.2), (1, .int (nI i)), (2, .ref t), (3, .ref (ad 0 0)), (4, .int (nI (hb_bw C 5))), (5, .ref q)]) hx hb dL_law_155 hl (by decide) rfl (fun ls hl => ?_)
  refine lv_aload_n hx hb dL_law_157 rfl (lv_at hl 4 rfl) ?_
  refine lv_iconst (v := nI 0) hx hb dL_law_158 (by decide) ?_
  refine lv_iload hx hb dL_law_159 (lv_at hl 0 rfl) ?_
  have lh161 : lh Z (M) ad (sA C) := hh
  obtain ⟨T161, hP161⟩ := lh161
  have e161 : (M) (ad 0 0) = hp_e0 Z ad (sA C) T161 0 := hP161.m 0 0 (by decide)
  refine hw_yi hI (hw_xV hx hb hml hown hts hk hI (m_X5_lay l hst Z M ad (sA C) T161 (hq_b ad) (nI 0) (nI w) hP161 (sA_v _).b) cv_L_43 e161 rfl rfl ⟨rfl, rfl⟩ ⟨(by first | exact Nat.le_of_ble_eq_true rfl | (show _ ≤ 600104; omega) | (show _ ≤ 7301314; omega) | omega), (by first | exact Nat.le_of_ble_eq_true rfl | (show _ ≤ 600104; omega) | (show _ ≤ 7301314; omega) | omega)⟩ rfl hl.1 rfl (by first | exact Nat.le_of_ble_eq_true rfl | (show _ ≤ 600104; omega) | (show _ ≤ 7301314; omega) | omega) ⟨(by first | exact Nat.le_of_ble_eq_true rfl | (show _ ≤ 600104; omega) | (show _ ≤ 7301314; omega) | omega), (by first | exact Nat.le_of_ble_eq_true rfl | (show _ ≤ 600104; omega) | (show _ ≤ 7301314; omega) | omega)⟩ dL_law_161) (fun _ _ _ _ _ _ _ hX9 _ _ _ => lx (ls_lay C hw6) hX9) (fun r161 M161 H locs hR hI => ?_)
  obtain ⟨rfl, hC161, hF161⟩ := lr (ls_lay C hw6) hR
  have b161_t : hq_b ad t := hbt
  have f161_t : M161 t = hw_ob 0 [.ref (ad 0 0), .ref Z.2.2.2, .int (nI d), v3, v4, v5, v6, v7, v8, v9, v10] := (hF161 _ b161_t).trans ht
  have b161_q : hq_b ad q := hbw
  have f161_q : M161 q = hw_ai Z 6 f := (hF161 _ b161_q).trans hwo
  refine lv_istore (lv' := [(9, .int (nI (hb_ht (hb_laid C w) 8))), (8, .int (nI w)), (0, .ref Z.2.2.2), (1, .int (nI i)), (2, .ref t), (3, .ref (ad 0 0)), (4, .int (nI (hb_bw C 5))), (5, .ref q)]) hx hb dL_law_164 hl (by decide) rfl (fun ls hl => ?_)
  refine lv_aload_n hx hb dL_law_166 rfl (lv_at hl 5 rfl) ?_
  refine lv_iconst (v := nI 0) hx hb dL_law_167 (by decide) ?_
  refine lv_iconst (v := nI 5) hx hb dL_law_168 (by decide) ?_
  have lh169 : lh Z (M161) ad (sA (hb_laid C w)) := hC161
  obtain ⟨T169, hP169⟩ := lh169
  have e169 : (M161) (ad 0 0) = hp_e0 Z ad (sA (hb_laid C w)) T169 0 := hP169.m 0 0 (by decide)
  refine hw_ci hI (hw_rV hx hb hml hown hts hk hI (m_X5_ofPiece_k l Z M161 ad (sA (hb_laid C w)) T169 (hq_b ad) 0 5 hP169 (sA_v _).b (show 0 < 1 by decide) (by decide)) cv_L_46 e169 rfl rfl ⟨rfl, rfl⟩ ⟨(by first | exact Nat.le_of_ble_eq_true rfl | (show _ ≤ 600104; omega) | (show _ ≤ 7301314; omega) | omega), (by first | exact Nat.le_of_ble_eq_true rfl | (show _ ≤ 600104; omega) | (show _ ≤ 7301314; omega) | omega)⟩ rfl hl.1 rfl (by first | exact Nat.le_of_ble_eq_true rfl | (show _ ≤ 600104; omega) | (show _ ≤ 7301314; omega) | omega) ⟨(by first | exact Nat.le_of_ble_eq_true rfl | (show _ ≤ 600104; omega) | (show _ ≤ 7301314; omega) | omega), (by first | exact Nat.le_of_ble_eq_true rfl | (show _ ≤ 600104; omega) | (show _ ≤ 7301314; omega) | omega)⟩ dL_law_169) (fun r169 M169 H locs hR hI => ?_)
  obtain ⟨rfl, rfl⟩ := hR
  refine hw_ti (sA_5 C w) ?_
  refine lv_aload hx hb dL_law_172 (lv_at hl 7 rfl) ?_
  refine lv_iload hx hb dL_law_174 (lv_at hl 1 rfl) ?_
  refine hw_iald hx hb hk hI f161_q (j := w) rfl hw6 (by decide) dL_law_176 ?_
  refine lv_icmp_ne (tgt := 212) hx hb dL_law_177 (by decide) (fun hc => absurd ((hf w hw6).symm) hc) (fun _ => ?_)
  refine lv_aload_n hx hb dL_law_180 rfl (lv_at hl 5 rfl) ?_
  refine lv_iconst (v := nI 0) hx hb dL_law_181 (by decide) ?_
  refine lv_iconst (v := nI 1) hx hb dL_law_182 (by decide) ?_
  have lh183 : lh Z (M161) ad (sA (hb_laid C w)) := hC161
  obtain ⟨T183, hP183⟩ := lh183
  have e183 : (M161) (ad 0 0) = hp_e0 Z ad (sA (hb_laid C w)) T183 0 := hP183.m 0 0 (by decide)
  refine hw_ci hI (hw_rV hx hb hml hown hts hk hI (m_X5_ofPiece_k l Z M161 ad (sA (hb_laid C w)) T183 (hq_b ad) 0 1 hP183 (sA_v _).b (show 0 < 1 by decide) (by decide)) cv_L_46 e183 rfl rfl ⟨rfl, rfl⟩ ⟨(by first | exact Nat.le_of_ble_eq_true rfl | (show _ ≤ 600104; omega) | (show _ ≤ 7301314; omega) | omega), (by first | exact Nat.le_of_ble_eq_true rfl | (show _ ≤ 600104; omega) | (show _ ≤ 7301314; omega) | omega)⟩ rfl hl.1 rfl (by first | exact Nat.le_of_ble_eq_true rfl | (show _ ≤ 600104; omega) | (show _ ≤ 7301314; omega) | omega) ⟨(by first | exact Nat.le_of_ble_eq_true rfl | (show _ ≤ 600104; omega) | (show _ ≤ 7301314; omega) | omega), (by first | exact Nat.le_of_ble_eq_true rfl | (show _ ≤ 600104; omega) | (show _ ≤ 7301314; omega) | omega)⟩ dL_law_183) (fun r183 M183 H locs hR hI => ?_)
  obtain ⟨rfl, rfl⟩ := hR
  refine hw_ti (sA_1 _) ?_
  refine lv_iload hx hb dL_law_186 (lv_at hl 0 rfl) ?_
  refine lv_icmp_ne (tgt := 212) hx hb dL_law_188 (by decide) (fun hc => absurd rfl hc) (fun _ => ?_)
  refine lv_iload hx hb dL_law_191 (lv_at hl 1 rfl) ?_
  refine lv_iload hx hb dL_law_193 (lv_at hl 6 rfl) ?_
  refine lv_icmp_ne (tgt := 214) hx hb dL_law_195 (by decide) (fun c195 => ?_) (fun c195 => ?_)
  · exact K _ _ _ _ _ _ hI f161_t hC161 (lv_sub hl [2, 3, 4, 5, 0] rfl) (by omega) (by omega)
  · have ew : w = hb_bw C 5 := (nI_eq (by omega) (by have := lb_bw C 5; omega)).mp c195
    refine lv_aload_n hx hb dL_law_198 rfl (lv_at hl 5 rfl) ?_
    refine lv_iconst (v := nI 0) hx hb dL_law_199 (by decide) ?_
    refine lv_iconst (v := nI 0) hx hb dL_law_200 (by decide) ?_
    have lh201 : lh Z (M161) ad (sA (hb_laid C w)) := hC161
    obtain ⟨T201, hP201⟩ := lh201
    have e201 : (M161) (ad 0 0) = hp_e0 Z ad (sA (hb_laid C w)) T201 0 := hP201.m 0 0 (by decide)
    refine hw_yi hI (hw_xV hx hb hml hown hts hk hI (m_X5_wouldHold l hst Z M161 ad (sA (hb_laid C w)) T201 (hq_b ad) (nI 0) (nI 0) hP201 (sA_v _).b) cv_L_39 e201 rfl rfl ⟨rfl, rfl⟩ ⟨(by first | exact Nat.le_of_ble_eq_true rfl | (show _ ≤ 600104; omega) | (show _ ≤ 7301314; omega) | omega), (by first | exact Nat.le_of_ble_eq_true rfl | (show _ ≤ 600104; omega) | (show _ ≤ 7301314; omega) | omega)⟩ rfl hl.1 rfl (by first | exact Nat.le_of_ble_eq_true rfl | (show _ ≤ 600104; omega) | (show _ ≤ 7301314; omega) | omega) ⟨(by first | exact Nat.le_of_ble_eq_true rfl | (show _ ≤ 600104; omega) | (show _ ≤ 7301314; omega) | omega), (by first | exact Nat.le_of_ble_eq_true rfl | (show _ ≤ 600104; omega) | (show _ ≤ 7301314; omega) | omega)⟩ dL_law_201) (fun _ _ _ _ _ _ _ hX9 _ _ _ => lx (ls_wh (hb_laid C w) (w := 0) (by decide)) hX9) (fun r201 M201 H locs hR hI => ?_)
    obtain ⟨rfl, hC201, hF201⟩ := lr (ls_wh (hb_laid C w) (w := 0) (by decide)) hR
    have b201_t : hq_b ad t := b161_t
    have f201_t : M201 t = hw_ob 0 [.ref (ad 0 0), .ref Z.2.2.2, .int (nI d), v3, v4, v5, v6, v7, v8, v9, v10] := (hF201 _ b201_t).trans f161_t
    have b201_q : hq_b ad q := b161_q
    have f201_q : M201 q = hw_ai Z 6 f := (hF201 _ b201_q).trans f161_q
    refine hw_ti (by rw [lb_ws hw6 (show 0 < 8 by decide) hC0]) ?_
    refine lv_aload hx hb dL_law_204 (lv_at hl 7 rfl) ?_
    refine lv_iload hx hb dL_law_206 (lv_at hl 6 rfl) ?_
    refine hw_iald hx hb hk hI f201_q (j := hb_bw C 5) rfl (Nat.lt_of_le_of_lt (lb_bw C 5) (by decide)) (by decide) dL_law_208 ?_
    refine lv_icmp_eq (tgt := 214) hx hb dL_law_209 (by decide) (fun _ => ?_) (fun hc => absurd ((congrArg nI (congrArg (hb_ws C) ew)).trans (hf _ (Nat.lt_of_le_of_lt (lb_bw C 5) (by decide))).symm) hc)
    exact K _ _ _ _ _ _ hI f201_t hC201 (lv_sub hl [2, 3, 4, 5, 0] rfl) (by omega) (by omega)
