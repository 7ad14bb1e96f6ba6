theorem fn_L_9 : hw_FN RL 9 0 11 [.null, .null, .int 0, .null, .null, .null, .null, .null, .null, .null, .null] := ⟨RX6, TX6, tyX6, rfl, iw_X6, tyX6_ok, (hw_win (w := .classLink RL 9 RX6) (by decide +kernel) (by decide +kernel)), (hw_win (w := .instantiable RX6 11) (by decide +kernel) (by decide +kernel)), (hw_win (w := .initialized RX6) (by decide +kernel) (by decide +kernel)), fun j hj => by rcases (show j = 0 ∨ j = 1 ∨ j = 2 ∨ j = 3 ∨ j = 4 ∨ j = 5 ∨ j = 6 ∨ j = 7 ∨ j = 8 ∨ j = 9 ∨ j = 10 by omega) with rfl | rfl | rfl | rfl | rfl | rfl | rfl | rfl | rfl | rfl | rfl <;> rfl⟩
theorem cb_X6_init (own : String) (index : Nat) : hw_CB own index yX6_init cX6_init 7 none 2 := ⟨⟨by decide +kernel, by decide +kernel, by decide +kernel⟩, (hw_win (w := .code yX6_init cX6_init 7 none) (by decide +kernel) (by decide +kernel)), (hw_win (w := .initialized yX6_init.cls) (by decide +kernel) (by decide +kernel))⟩
theorem ci_L_11 : hw_CI RL 11 yX6_init cX6_init 7 2 := ⟨cb_X6_init _ _, (hw_win (w := .methodLink RL 11 yX6_init) (by decide +kernel) (by decide +kernel)), (hw_win (w := .instanceMethod yX6_init) (by decide +kernel) (by decide +kernel)), rfl⟩
theorem fd_L_14 : hw_FD RL 14 0 0 := ⟨RX6, TX6, 11, "MeltPoolLaw$Told", rfl, by decide, iw_X6, (hw_win (w := .fieldLink RL 14 "MeltPoolLaw$Told" (TX6 0).2.1 (TX6 0).2.2.1) (by decide +kernel) (by decide +kernel)), Or.inl rfl⟩
theorem cb_X6_piece (own : String) (index : Nat) : hw_CB own index yX6_piece cX6_piece 2 (some .boolean) 0 := ⟨⟨by decide +kernel, by decide +kernel, by decide +kernel⟩, (hw_win (w := .code yX6_piece cX6_piece 2 (some .boolean)) (by decide +kernel) (by decide +kernel)), (hw_win (w := .initialized yX6_piece.cls) (by decide +kernel) (by decide +kernel))⟩
theorem cv_L_18 : hw_CV RL 18 yX6_piece cX6_piece 2 (some .boolean) 0 := ⟨cb_X6_piece _ _, (hw_win (w := .methodLink RL 18 yX6_piece) (by decide +kernel) (by decide +kernel)), (hw_win (w := .instanceMethod yX6_piece) (by decide +kernel) (by decide +kernel)), (hw_win (w := .selects yX6_piece.cls yX6_piece yX6_piece) (by decide +kernel) (by decide +kernel))⟩
theorem cb_X6_layer (own : String) (index : Nat) : hw_CB own index yX6_layer cX6_layer 12 (some .boolean) 2 := ⟨⟨by decide +kernel, by decide +kernel, by decide +kernel⟩, (hw_win (w := .code yX6_layer cX6_layer 12 (some .boolean)) (by decide +kernel) (by decide +kernel)), (hw_win (w := .initialized yX6_layer.cls) (by decide +kernel) (by decide +kernel))⟩
theorem cv_L_26 : hw_CV RL 26 yX6_layer cX6_layer 12 (some .boolean) 2 := ⟨cb_X6_layer _ _, (hw_win (w := .methodLink RL 26 yX6_layer) (by decide +kernel) (by decide +kernel)), (hw_win (w := .instanceMethod yX6_layer) (by decide +kernel) (by decide +kernel)), (hw_win (w := .selects yX6_layer.cls yX6_layer yX6_layer) (by decide +kernel) (by decide +kernel))⟩
theorem cv_L_22 : hw_CV RL 22 yX6_draw cX6_draw 3 (some .int) 1 := ⟨cb_X6_draw _ _, (hw_win (w := .methodLink RL 22 yX6_draw) (by decide +kernel) (by decide +kernel)), (hw_win (w := .instanceMethod yX6_draw) (by decide +kernel) (by decide +kernel)), (hw_win (w := .selects yX6_draw.cls yX6_draw yX6_draw) (by decide +kernel) (by decide +kernel))⟩
set_option maxHeartbeats 4000000 in
set_option maxRecDepth 100000 in
theorem sg_A {p : Program} {l : Launch} {e : Env} {s : State} {m : MethodId} {below : List Frame} {meth : Method} {c : Code} {H : Heap} {locs : List Loc} {cells slots : Nat} {Q : State → Prop} {ls : Array Slot} {Z : hw_Z} {M : hw_M} {i : Nat} (hi2 : i < 2) (hst : l.stackTraces = false) (CX : lw_cx p s m c Z) (hI : hw_iv Z s M H locs) (hl : lv_has ls 19 [(0, .ref Z.2.2.2), (1, .int (nI i))]) (hc9 : cells + 3000 ≤ 600104) (hs9 : slots + 60000 ≤ 7301314)
    (K : ∀ (M1 : hw_M) (H1 : Heap) (locs1 : List Loc) (cells1 slots1 : Nat) (ls1 : Array Slot) (ad : hp_ad) (t d : Nat) (C : Nat → Int64) (v3 v4 v5 v6 v7 v8 v9 v10 : Value), hw_iv Z s M1 H1 locs1 → (M1 t = hw_ob 0 [.ref (ad 0 0), .ref Z.2.2.2, .int (nI d), v3, v4, v5, v6, v7, v8, v9, v10]) → (lh Z M1 ad (sA C)) → (¬ C 0 = 0) → (d ≤ 100) → lv_has ls1 19 [(0, .ref Z.2.2.2), (1, .int (nI i)), (2, .ref t), (3, .ref (ad 0 0))] → cells1 ≤ cells + 3000 → slots1 ≤ slots + 60000 → W p l e room_1 s m #[Value.ref Z.2.2.2] below meth c H1 locs1 cells1 slots1 Q (F0 m 77 ls1 [])) :
    W p l e room_1 s m #[Value.ref Z.2.2.2] below meth c H locs cells slots Q (F0 m 7 ls []) := by
  obtain ⟨hx, hb, hml, hown, hts, hk⟩ := CX
  refine hw_new hx hb hts hown hk hI fn_L_9 (by first | exact Nat.le_of_ble_eq_true rfl | (show _ ≤ 600104; omega) | (show _ ≤ 7301314; omega) | omega) (by first | exact Nat.le_of_ble_eq_true rfl | (show _ ≤ 600104; omega) | (show _ ≤ 7301314; omega) | omega) dL_law_7 (fun q7 H hq7 hI => ?_)
  refine lv_dup hx hb dL_law_10 rfl ?_
  refine lv_aload_n hx hb dL_law_11 rfl (lv_at hl 0 rfl) ?_
  refine lv_bipush (v := nI 31) hx hb dL_law_12 (by decide) ?_
  refine lv_iload_n hx hb dL_law_14 rfl (lv_at hl 1 rfl) ?_
  refine lv_imul hx hb dL_law_15 ?_
  refine hw_ti (pk_mul _ _) ?_
  refine lv_bipush (v := nI 7) hx hb dL_law_16 (by decide) ?_
  refine lv_iadd hx hb dL_law_18 ?_
  refine hw_ti (nI_add _ _) ?_
  refine hw_cv hI (hw_rI hx hb hml hown hts hk hI (m_X6_init l Z (va_up M q7 (hw_ob 0 [.null, .null, .int 0, .null, .null, .null, .null, .null, .null, .null, .null])) q7 ((31 * i) + 7) (hw_us _ _ _)) ci_L_11 ⟨rfl, rfl⟩ ⟨(by first | exact Nat.le_of_ble_eq_true rfl | (show _ ≤ 600104; omega) | (show _ ≤ 7301314; omega) | omega), (by first | exact Nat.le_of_ble_eq_true rfl | (show _ ≤ 600104; omega) | (show _ ≤ 7301314; omega) | omega)⟩ rfl hl.1 rfl (by first | exact Nat.le_of_ble_eq_true rfl | (show _ ≤ 600104; omega) | (show _ ≤ 7301314; omega) | omega) ⟨(by first | exact Nat.le_of_ble_eq_true rfl | (show _ ≤ 600104; omega) | (show _ ≤ 7301314; omega) | omega), (by first | exact Nat.le_of_ble_eq_true rfl | (show _ ≤ 600104; omega) | (show _ ≤ 7301314; omega) | omega)⟩ dL_law_19) (fun M19 H locs hR hI => ?_)
  obtain ⟨ad, so0, pi0, v5, v6, v7, v8, v9, v10, ht, hso, hpi, hh⟩ := hR
  refine lv_astore_n (lv' := [(2, .ref q7), (0, .ref Z.2.2.2), (1, .int (nI i))]) hx hb dL_law_22 rfl hl (by decide) rfl (fun ls hl => ?_)
  refine lv_aload_n hx hb dL_law_23 rfl (lv_at hl 0 rfl) ?_
  refine hw_get hx hb hts hown hk hI fd_L_14 ht rfl dL_law_24 ?_
  refine lv_astore_n (lv' := [(3, .ref (ad 0 0)), (2, .ref q7), (0, .ref Z.2.2.2), (1, .int (nI i))]) hx hb dL_law_27 rfl hl (by decide) rfl (fun ls hl => ?_)
  refine lv_aload_n hx hb dL_law_28 rfl (lv_at hl 1 rfl) ?_
  refine hw_ci hI (hw_rV hx hb hml hown hts hk hI (m_X6_piece l Z M19 ad q7 so0 pi0 (31 * i + 7) v5 v6 v7 v8 v9 v10 ht hso hpi hh hst) cv_L_18 ht rfl rfl ⟨rfl, rfl⟩ ⟨(by first | exact Nat.le_of_ble_eq_true rfl | (show _ ≤ 600104; omega) | (show _ ≤ 7301314; omega) | omega), (by first | exact Nat.le_of_ble_eq_true rfl | (show _ ≤ 600104; omega) | (show _ ≤ 7301314; omega) | omega)⟩ rfl hl.1 rfl (by first | exact Nat.le_of_ble_eq_true rfl | (show _ ≤ 600104; omega) | (show _ ≤ 7301314; omega) | omega) ⟨(by first | exact Nat.le_of_ble_eq_true rfl | (show _ ≤ 600104; omega) | (show _ ≤ 7301314; omega) | omega), (by first | exact Nat.le_of_ble_eq_true rfl | (show _ ≤ 600104; omega) | (show _ ≤ 7301314; omega) | omega)⟩ dL_law_29) (fun r29 M29 H locs hR hI => ?_)
  obtain ⟨rfl, so, bo, pi, f1, kt, kso, kf, kbo, kh, kb1, kb2, kb3⟩ := hR
  have hT0 : lt_o Z M29 ad (sA (fun _ => 0)) q7 so bo (31 * i + 7) (.ref pi) v5 v6 v7 v8 v9 v10 (fun _ => 0) := ⟨kt, ⟨f1, kso, kf⟩, kbo, by rw [sA_0]; exact kh, kb1, kb2, kb3⟩
  refine lv_if_ne (tgt := 37) hx hb dL_law_32 (by decide) (fun _ => ?_) (fun hc => absurd hc (by decide))
  refine lv_iconst (v := nI 0) hx hb dL_law_37 (by decide) ?_
  refine lv_istore (lv' := [(4, .int (nI 0)), (3, .ref (ad 0 0)), (2, .ref q7), (0, .ref Z.2.2.2), (1, .int (nI i))]) hx hb dL_law_38 hl (by decide) rfl (fun ls hl => ?_)
  refine hw_wr (cells1 := (cells + 6 * 0 + 101)) (slots1 := (slots + 36 * 0 + 1511)) (by omega) (by omega) ?_
  suffices LP40 : ∀ z, z ≤ 4 → ∀ (M4 : hw_M) (C4 : Nat → Int64) (d4 : Nat) (g4 : Nat → Int32) (hT4 : lt_o Z M4 ad (sA C4) q7 so bo d4 (.ref pi) v5 v6 v7 v8 v9 v10 g4) (hd4 : d4 ≤ 31 * i + 7 + 14 * z) (hC4 : 0 < z → ¬ C4 0 = 0) (H : Heap) (locs : List Loc) (ls : Array Slot), hw_iv Z s (M4) H locs → lv_has ls 19 [(4, .int (nI z)), (0, .ref Z.2.2.2), (1, .int (nI i)), (2, .ref q7), (3, .ref (ad 0 0))] → W p l e room_1 s m #[Value.ref Z.2.2.2] below meth c H locs (cells + 6 * z + 101) (slots + 36 * z + 1511) Q (F0 m 40 ls []) from LP40 0 (by omega) _ _ _ _ hT0 (by omega) (fun h => absurd h (Nat.lt_irrefl 0)) _ _ _ hI (lv_sub hl [0, 3, 4, 2, 1] rfl)
  refine hw_loop ?_ (fun z hi40 ih40 => ?_)
  · intro M4 C4 d4 g4 hT4 hd4 hC4 H locs ls hI hl
    refine lv_iload hx hb dL_law_40 (lv_at hl 0 rfl) ?_
    refine lv_iconst (v := nI 4) hx hb dL_law_42 (by decide) ?_
    refine lv_icmp_ge (tgt := 77) hx hb dL_law_43 (by decide) (fun _ => ?_) (fun hc => absurd (Int32.le_refl _) hc)
    exact K _ _ _ _ _ _ ad q7 d4 C4 (.ref so) (.ref pi) v5 v6 v7 v8 v9 v10 hI hT4.1 hT4.2.2.2.1 (hC4 (by decide)) (by omega) (lv_sub hl [1, 2, 3, 4] rfl) (by omega) (by omega)
  · intro M4 C4 d4 g4 hT4 hd4 hC4 H locs ls hI hl
    refine lv_iload hx hb dL_law_40 (lv_at hl 0 rfl) ?_
    refine lv_iconst (v := nI 4) hx hb dL_law_42 (by decide) ?_
    refine lv_icmp_ge (tgt := 77) hx hb dL_law_43 (by decide) (fun hc => absurd hc (nI_ge hi40 (by decide))) (fun _ => ?_)
    refine lv_iload hx hb dL_law_46 (lv_at hl 0 rfl) ?_
    refine lv_if_eq (tgt := 59) hx hb dL_law_48 (by decide) (fun c48 => ?_) (fun c48 => ?_)
    · refine lv_aload_n hx hb dL_law_59 rfl (lv_at hl 3 rfl) ?_
      refine lv_iconst (v := nI 0) hx hb dL_law_60 (by decide) ?_
      refine lv_iload hx hb dL_law_61 (lv_at hl 0 rfl) ?_
      refine hw_ci hI (hw_rV hx hb hml hown hts hk hI (m_X6_layer l Z M4 ad (sA C4) q7 so bo d4 (.ref pi) v5 v6 v7 v8 v9 v10 g4 z hst hT4 ((sA_v C4).b) (show 0 < 1 by decide) rfl (by omega) (by omega)) cv_L_26 hT4.1 rfl rfl ⟨rfl, rfl⟩ ⟨(by first | exact Nat.le_of_ble_eq_true rfl | (show _ ≤ 600104; omega) | (show _ ≤ 7301314; omega) | omega), (by first | exact Nat.le_of_ble_eq_true rfl | (show _ ≤ 600104; omega) | (show _ ≤ 7301314; omega) | omega)⟩ rfl hl.1 rfl (by first | exact Nat.le_of_ble_eq_true rfl | (show _ ≤ 600104; omega) | (show _ ≤ 7301314; omega) | omega) ⟨(by first | exact Nat.le_of_ble_eq_true rfl | (show _ ≤ 600104; omega) | (show _ ≤ 7301314; omega) | omega), (by first | exact Nat.le_of_ble_eq_true rfl | (show _ ≤ 600104; omega) | (show _ ≤ 7301314; omega) | omega)⟩ dL_law_63) (fun r63 M63 H locs hR hI => ?_)
      obtain ⟨rfl, x, d9, g9, hx9, hd9, hT9⟩ := hR
      have hT63 : lt_o Z M63 ad (sA (va_up C4 z x)) q7 so bo d9 (.ref pi) v5 v6 v7 v8 v9 v10 g9 := by rw [← sA_z]; exact hT9
      refine lv_if_ne (tgt := 71) hx hb dL_law_66 (by decide) (fun _ => ?_) (fun hc => absurd hc (by decide))
      refine lv_iinc (v := nI (z + 1)) (lv' := [(4, .int (nI (z + 1))), (0, .ref Z.2.2.2), (1, .int (nI i)), (2, .ref q7), (3, .ref (ad 0 0))]) hx hb dL_law_71 hl (k := 0) rfl (hw_inc _) (by decide) rfl (fun ls hl => ?_)
      refine lv_goto (tgt := 40) hx hb dL_law_74 (by decide) ?_
      refine W.widen (k := (cells + 6 * (z + 1) + 101)) (n := (slots + 36 * (z + 1) + 1511)) (by omega) (by omega) ?_
      exact ih40 _ _ _ _ hT63 (by omega) (fun _ => by
      by_cases e9 : z = 0
      · subst e9; rw [va_up_self]; exact hx9
      · rw [va_up_ne _ _ (Ne.symm e9)]; exact hC4 (by omega)) _ _ _ hI (lv_sub hl [0, 1, 2, 3, 4] rfl)
    · refine lv_aload_n hx hb dL_law_51 rfl (lv_at hl 3 rfl) ?_
      refine lv_iconst (v := nI 2) hx hb dL_law_52 (by decide) ?_
      refine hw_ci hI (hw_rV hx hb hml hown hts hk hI (m_X6_draw l Z M4 q7 d4 (.ref (ad 0 0)) (.ref so) (.ref pi) v5 v6 v7 v8 v9 v10 2 hT4.1 (by decide) (by decide) (by omega)) cv_L_22 hT4.1 rfl rfl ⟨rfl, rfl⟩ ⟨(by first | exact Nat.le_of_ble_eq_true rfl | (show _ ≤ 600104; omega) | (show _ ≤ 7301314; omega) | omega), (by first | exact Nat.le_of_ble_eq_true rfl | (show _ ≤ 600104; omega) | (show _ ≤ 7301314; omega) | omega)⟩ rfl hl.1 rfl (by first | exact Nat.le_of_ble_eq_true rfl | (show _ ≤ 600104; omega) | (show _ ≤ 7301314; omega) | omega) ⟨(by first | exact Nat.le_of_ble_eq_true rfl | (show _ ≤ 600104; omega) | (show _ ≤ 7301314; omega) | omega), (by first | exact Nat.le_of_ble_eq_true rfl | (show _ ≤ 600104; omega) | (show _ ≤ 7301314; omega) | omega)⟩ dL_law_53) (fun r53 M53 H locs hR hI => ?_)
      obtain ⟨j53, hj53, rfl, hM53⟩ := hR
      have hT53 : lt_o Z M53 ad (sA C4) q7 so bo (d4 + 1) (.ref pi) v5 v6 v7 v8 v9 v10 g4 := hM53 ▸ lt_d hT4
      refine lv_if_ne (tgt := 71) hx hb dL_law_56 (by decide) (fun c56 => ?_) (fun c56 => ?_)
      · refine lv_iinc (v := nI (z + 1)) (lv' := [(4, .int (nI (z + 1))), (0, .ref Z.2.2.2), (1, .int (nI i)), (2, .ref q7), (3, .ref (ad 0 0))]) hx hb dL_law_71 hl (k := 0) rfl (hw_inc _) (by decide) rfl (fun ls hl => ?_)
        refine lv_goto (tgt := 40) hx hb dL_law_74 (by decide) ?_
        refine W.widen (k := (cells + 6 * (z + 1) + 101)) (n := (slots + 36 * (z + 1) + 1511)) (by omega) (by omega) ?_
        exact ih40 _ _ _ _ hT53 (by omega) (fun _ => hC4 (Nat.pos_of_ne_zero (fun q => c48 (by rw [q]; rfl)))) _ _ _ hI (lv_sub hl [0, 1, 2, 3, 4] rfl)
      · refine lv_aload_n hx hb dL_law_59 rfl (lv_at hl 3 rfl) ?_
        refine lv_iconst (v := nI 0) hx hb dL_law_60 (by decide) ?_
        refine lv_iload hx hb dL_law_61 (lv_at hl 0 rfl) ?_
        refine hw_ci hI (hw_rV hx hb hml hown hts hk hI (m_X6_layer l Z M53 ad (sA C4) q7 so bo (d4 + 1) (.ref pi) v5 v6 v7 v8 v9 v10 g4 z hst hT53 ((sA_v C4).b) (show 0 < 1 by decide) rfl (by omega) (by omega)) cv_L_26 hT53.1 rfl rfl ⟨rfl, rfl⟩ ⟨(by first | exact Nat.le_of_ble_eq_true rfl | (show _ ≤ 600104; omega) | (show _ ≤ 7301314; omega) | omega), (by first | exact Nat.le_of_ble_eq_true rfl | (show _ ≤ 600104; omega) | (show _ ≤ 7301314; omega) | omega)⟩ rfl hl.1 rfl (by first | exact Nat.le_of_ble_eq_true rfl | (show _ ≤ 600104; omega) | (show _ ≤ 7301314; omega) | omega) ⟨(by first | exact Nat.le_of_ble_eq_true rfl | (show _ ≤ 600104; omega) | (show _ ≤ 7301314; omega) | omega), (by first | exact Nat.le_of_ble_eq_true rfl | (show _ ≤ 600104; omega) | (show _ ≤ 7301314; omega) | omega)⟩ dL_law_63) (fun r63 M63 H locs hR hI => ?_)
        obtain ⟨rfl, x, d9, g9, hx9, hd9, hT9⟩ := hR
        have hT63 : lt_o Z M63 ad (sA (va_up C4 z x)) q7 so bo d9 (.ref pi) v5 v6 v7 v8 v9 v10 g9 := by rw [← sA_z]; exact hT9
        refine lv_if_ne (tgt := 71) hx hb dL_law_66 (by decide) (fun _ => ?_) (fun hc => absurd hc (by decide))
        refine lv_iinc (v := nI (z + 1)) (lv' := [(4, .int (nI (z + 1))), (0, .ref Z.2.2.2), (1, .int (nI i)), (2, .ref q7), (3, .ref (ad 0 0))]) hx hb dL_law_71 hl (k := 0) rfl (hw_inc _) (by decide) rfl (fun ls hl => ?_)
        refine lv_goto (tgt := 40) hx hb dL_law_74 (by decide) ?_
        refine W.widen (k := (cells + 6 * (z + 1) + 101)) (n := (slots + 36 * (z + 1) + 1511)) (by omega) (by omega) ?_
        exact ih40 _ _ _ _ hT63 (by omega) (fun _ => by
      by_cases e9 : z = 0
      · subst e9; rw [va_up_self]; exact hx9
      · rw [va_up_ne _ _ (Ne.symm e9)]; exact hC4 (by omega)) _ _ _ hI (lv_sub hl [0, 1, 2, 3, 4] rfl)
