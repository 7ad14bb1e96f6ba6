theorem cb_X5_proofsOfAll (own : String) (index : Nat) : hw_CB own index yX5_proofsOfAll cX5_proofsOfAll 3 (some .int) 0 := ⟨⟨by decide +kernel, by decide +kernel, by decide +kernel⟩, (hw_win (w := .code yX5_proofsOfAll cX5_proofsOfAll 3 (some .int)) (by decide +kernel) (by decide +kernel)), (hw_win (w := .initialized yX5_proofsOfAll.cls) (by decide +kernel) (by decide +kernel))⟩
theorem cv_X5_318 : hw_CV RX5 318 yX5_proofsOfAll cX5_proofsOfAll 3 (some .int) 0 := ⟨cb_X5_proofsOfAll _ _, (hw_win (w := .methodLink RX5 318 yX5_proofsOfAll) (by decide +kernel) (by decide +kernel)), (hw_win (w := .instanceMethod yX5_proofsOfAll) (by decide +kernel) (by decide +kernel)), (hw_win (w := .selects yX5_proofsOfAll.cls yX5_proofsOfAll yX5_proofsOfAll) (by decide +kernel) (by decide +kernel))⟩
theorem cb_X5_piecesThatAre (own : String) (index : Nat) : hw_CB own index yX5_piecesThatAre cX5_piecesThatAre 4 (some .int) 1 := ⟨⟨by decide +kernel, by decide +kernel, by decide +kernel⟩, (hw_win (w := .code yX5_piecesThatAre cX5_piecesThatAre 4 (some .int)) (by decide +kernel) (by decide +kernel)), (hw_win (w := .initialized yX5_piecesThatAre.cls) (by decide +kernel) (by decide +kernel))⟩
theorem cv_X5_321 : hw_CV RX5 321 yX5_piecesThatAre cX5_piecesThatAre 4 (some .int) 1 := ⟨cb_X5_piecesThatAre _ _, (hw_win (w := .methodLink RX5 321 yX5_piecesThatAre) (by decide +kernel) (by decide +kernel)), (hw_win (w := .instanceMethod yX5_piecesThatAre) (by decide +kernel) (by decide +kernel)), (hw_win (w := .selects yX5_piecesThatAre.cls yX5_piecesThatAre yX5_piecesThatAre) (by decide +kernel) (by decide +kernel))⟩
theorem cb_X5_gramsOfAll (own : String) (index : Nat) : hw_CB own index yX5_gramsOfAll cX5_gramsOfAll 3 (some .int) 0 := ⟨⟨by decide +kernel, by decide +kernel, by decide +kernel⟩, (hw_win (w := .code yX5_gramsOfAll cX5_gramsOfAll 3 (some .int)) (by decide +kernel) (by decide +kernel)), (hw_win (w := .initialized yX5_gramsOfAll.cls) (by decide +kernel) (by decide +kernel))⟩
theorem cv_X5_324 : hw_CV RX5 324 yX5_gramsOfAll cX5_gramsOfAll 3 (some .int) 0 := ⟨cb_X5_gramsOfAll _ _, (hw_win (w := .methodLink RX5 324 yX5_gramsOfAll) (by decide +kernel) (by decide +kernel)), (hw_win (w := .instanceMethod yX5_gramsOfAll) (by decide +kernel) (by decide +kernel)), (hw_win (w := .selects yX5_gramsOfAll.cls yX5_gramsOfAll yX5_gramsOfAll) (by decide +kernel) (by decide +kernel))⟩
theorem fd_X5_224 : hw_FD RX5 224 6 5 := ⟨RX5, TX5, 9, "MeltPool", rfl, by decide, iw_X5, (hw_win (w := .fieldLink RX5 224 "MeltPool" (TX5 5).2.1 (TX5 5).2.2.1) (by decide +kernel) (by decide +kernel)), Or.inl rfl⟩
theorem fd_X5_217 : hw_FD RX5 217 6 6 := ⟨RX5, TX5, 9, "MeltPool", rfl, by decide, iw_X5, (hw_win (w := .fieldLink RX5 217 "MeltPool" (TX5 6).2.1 (TX5 6).2.2.1) (by decide +kernel) (by decide +kernel)), Or.inl rfl⟩
theorem th_X5_96_327_100 : hw_TH RX5 96 327 100 "java/lang/IllegalArgumentException" "what is not 0 to 7" := ⟨by decide +kernel, (hw_win (w := .classLink RX5 96 "java/lang/IllegalArgumentException") (by decide +kernel) (by decide +kernel)), (hw_win (w := .initialized "java/lang/IllegalArgumentException") (by decide +kernel) (by decide +kernel)), by decide +kernel, (fun w h => hw_win ((by decide +kernel : ∀ w ∈ (vx_atS RX5 100 "java/lang/IllegalArgumentException" ["java/lang/RuntimeException", "java/lang/Exception"]).filter goodWord, w ∈ lw_tbl) w h) ((List.mem_filter.mp h).2)), by decide +kernel, by decide +kernel, by decide +kernel⟩
set_option maxHeartbeats 4000000 in
set_option maxRecDepth 100000 in
theorem m_X5_recall (l : Launch) (hst : l.stackTraces = false) (Z : hw_Z) (M : hw_M) (ad : hp_ad) (S : hs_S) (T : hp_T) (b1 : Nat → Prop) (ka : Int32) (hP : hp_ok Z b1 M ad S T) (hB : hs_b S) : vx_Met l yX5_recall (hw_m yX5_recall cX5_recall 5 (some .int)) ({ frames := 9, cells := 6, slots := 36, locals := 190 } : Room) (va_Pc [.ref (ad 0 0), .int ka] (hw_P Z M)) (hw_Qi Z (hq_N M S (st_recall S ka))) (hw_X Z (hq_X ["java/lang/IndexOutOfBoundsException"] M S (st_recall S ka))) 6 36 (hw_A Z) := by
  refine hw_xofi hst (by decide +kernel) rfl (Nat.le_of_ble_eq_true rfl) ?_
  intro p e s m below meth c ls Q hx hb hml hown hts hk hnm hI hl hret hxo hthr hthrW
  have hnp := hB.np
  have hnw := hB.nw
  have e0_0hP : M (ad 0 0) = hw_ob 6 [.ref (ad 0 1), .ref (ad 0 2), .ref (ad 0 3), .int (nI (hs_np S)), .int (nI (hs_nw S)), .int (hs_G S 0), .int (hs_G S 1), .ref (ad 0 4), .ref (ad 0 8)] := hP.m 0 0 (by decide)
  have e0_1hP : M (ad 0 1) = hw_ar Z 3 4 (fun j => some (ad 1 j)) := hP.m 0 1 (by decide)
  have e0_2hP : M (ad 0 2) = hw_ar Z 4 6 (fun j => some (ad 8 j)) := hP.m 0 2 (by decide)
  refine lv_aload_n hx hb dX5_recall_0 rfl (lv_at hl 0 rfl) ?_
  refine lv_iload_n hx hb dX5_recall_1 rfl (lv_at hl 1 rfl) ?_
  refine hw_xr hI hxo (hw_xV hx hb hml hown hts hk hI (m_X5_powderAt l hst Z M (ad 0 0) (ad 0 1) (ad 0 2) (ad 0 3) (ad 0 4) (ad 0 8) (hs_np S) (hs_nw S) (hs_G S 0) (hs_G S 1) ka (ad 8) e0_0hP e0_2hP hnw) cv_X5_117 e0_0hP rfl rfl ⟨rfl, rfl⟩ ⟨(Nat.le_of_ble_eq_true rfl), (Nat.le_of_ble_eq_true rfl)⟩ rfl hl.1 rfl (Nat.le_of_ble_eq_true rfl) ⟨(Nat.le_of_ble_eq_true rfl), (Nat.le_of_ble_eq_true rfl)⟩ dX5_recall_2) (hq_xc (c := 1) (fun h => by unfold st_recall; exact (hq_if h ⟨rfl, rfl⟩)) ⟨by decide, rfl⟩) (Nat.le_of_ble_eq_true rfl) (Nat.le_of_ble_eq_true rfl) (fun r2 M2 H locs hR hI => ?_)
  obtain ⟨⟨hk2, rfl⟩, rfl⟩ := hR
  have hx2 := hb_okx (by omega) hk2
  have hi2 : hb_ix ka < 6 := by have := hx2.1; omega
  have e8_hb_ix_kahP : M (ad 8 (hb_ix ka)) = hw_ob 4 [.int (nI (hb_ix ka)), .int (hs_V S (hb_ix ka) 0), .int (hs_V S (hb_ix ka) 1), .int (hs_V S (hb_ix ka) 2), .int (hs_V S (hb_ix ka) 3), .int (hs_V S (hb_ix ka) 4)] := hP.m 8 (hb_ix ka) hi2
  refine lv_astore_n (lv' := [(2, .ref (ad 8 (hb_ix ka))), (0, .ref (ad 0 0)), (1, .int ka)]) hx hb dX5_recall_5 rfl hl (by decide) rfl (fun ls hl => ?_)
  refine lv_iconst (v := nI 0) hx hb dX5_recall_6 (by decide) ?_
  refine lv_istore_n (lv' := [(3, .int (nI 0)), (2, .ref (ad 8 (hb_ix ka))), (0, .ref (ad 0 0)), (1, .int ka)]) hx hb dX5_recall_7 rfl hl (by decide) rfl (fun ls hl => ?_)
  refine lv_iconst (v := nI 0) hx hb dX5_recall_8 (by decide) ?_
  refine lv_istore (lv' := [(4, .int (nI 0)), (3, .int (nI 0)), (2, .ref (ad 8 (hb_ix ka))), (0, .ref (ad 0 0)), (1, .int ka)]) hx hb dX5_recall_9 hl (by decide) rfl (fun ls hl => ?_)
  suffices LP11 : ∀ i, i ≤ hs_np S → ∀ (H : Heap) (locs : List Loc) (ls : Array Slot), hw_iv Z s (M) H locs → lv_has ls 5 [(3, .int (hs_re S (hb_ix ka) i)), (4, .int (nI i)), (0, .ref (ad 0 0)), (2, .ref (ad 8 (hb_ix ka)))] → W p l e ({ frames := 9, cells := 6, slots := 36, locals := 190 } : Room) s m ([.ref (ad 0 0), .int ka] : List Value).toArray below meth c H locs 1 6 Q (F0 m 11 ls []) from LP11 0 (by omega) _ _ _ hI (lv_sub hl [1, 0, 3, 2] rfl)
  refine hw_loop ?_ (fun i hi11 ih11 => ?_)
  · intro H locs ls hI hl
    refine lv_iload hx hb dX5_recall_11 (lv_at hl 1 rfl) ?_
    refine lv_aload_n hx hb dX5_recall_13 rfl (lv_at hl 2 rfl) ?_
    refine hw_get hx hb hts hown hk hI fd_X5_46 e0_0hP rfl dX5_recall_14 ?_
    refine lv_icmp_ge (tgt := 66) hx hb dX5_recall_17 (by decide) (fun _ => ?_) (fun hc => absurd (Int32.le_refl _) hc)
    refine lv_iload_n hx hb dX5_recall_66 rfl (lv_at hl 0 rfl) ?_
    exact hret hI (⟨by unfold st_recall; exact if_neg (fun q => q hk2), rfl⟩) (Nat.le_of_ble_eq_true rfl) (Nat.le_of_ble_eq_true rfl) dX5_recall_67
  · intro H locs ls hI hl
    refine lv_iload hx hb dX5_recall_11 (lv_at hl 1 rfl) ?_
    refine lv_aload_n hx hb dX5_recall_13 rfl (lv_at hl 2 rfl) ?_
    refine hw_get hx hb hts hown hk hI fd_X5_46 e0_0hP rfl dX5_recall_14 ?_
    refine lv_icmp_ge (tgt := 66) hx hb dX5_recall_17 (by decide) (fun hc => absurd hc (nI_ge hi11 (by omega))) (fun _ => ?_)
    have hi4 : i < 4 := by omega
    by_cases hm : hs_P S i 4 = -1
    · have e1_ihP : M (ad 1 i) = hw_ob 3 [.int (nI i), .ref (ad 2 i), .ref (ad 6 i), .int (hs_P S i 0), .int (nI (hs_D S i)), .double (hs_U S i), .int (hs_P S i 3), .null, .int (hs_P S i 5), .int (hs_P S i 6), .int (hs_P S i 7), .int (hs_P S i 8), .int (hs_P S i 9)] := by
        have q := hP.m 1 i hi4
        rw [show hp_e Z ad S T 1 i = hw_ob 3 [.int (nI i), .ref (ad 2 i), .ref (ad 6 i), .int (hs_P S i 0), .int (nI (hs_D S i)), .double (hs_U S i), .int (hs_P S i 3), hp_ref (ad 9) (hs_P S i 4), .int (hs_P S i 5), .int (hs_P S i 6), .int (hs_P S i 7), .int (hs_P S i 8), .int (hs_P S i 9)] from rfl] at q
        rw [hp_refn hm] at q
        exact q
      refine lv_aload_n hx hb dX5_recall_20 rfl (lv_at hl 2 rfl) ?_
      refine hw_get hx hb hts hown hk hI fd_X5_11 e0_0hP rfl dX5_recall_21 ?_
      refine lv_iload hx hb dX5_recall_24 (lv_at hl 1 rfl) ?_
      refine hw_aald hx hb hk hI 3 (v := .ref (ad 1 i)) e0_1hP rfl (j := i) rfl (by omega) (by decide) rfl dX5_recall_26 ?_
      refine hw_get hx hb hts hown hk hI fd_X5_239 e1_ihP rfl dX5_recall_27 ?_
      refine lv_ifnullN (tgt := 60) hx hb dX5_recall_30 (by decide) ?_
      refine lv_iinc (v := nI (i + 1)) (lv' := [(4, .int (nI (i + 1))), (3, .int (hs_re S (hb_ix ka) i)), (0, .ref (ad 0 0)), (2, .ref (ad 8 (hb_ix ka)))]) hx hb dX5_recall_60 hl (k := 1) rfl (hw_inc _) (by decide) rfl (fun ls hl => ?_)
      refine lv_goto (tgt := 11) hx hb dX5_recall_63 (by decide) ?_
      exact ih11 _ _ _ hI (lv_sub hl [1, 0, 2, 3] (by rw [show hs_re S (hb_ix ka) (i + 1) = _ from if_neg (fun q => q.1 hm)]; rfl))
    · have e1_ihP : M (ad 1 i) = hw_ob 3 [.int (nI i), .ref (ad 2 i), .ref (ad 6 i), .int (hs_P S i 0), .int (nI (hs_D S i)), .double (hs_U S i), .int (hs_P S i 3), .ref (ad 9 (hb_ix (hs_P S i 4))), .int (hs_P S i 5), .int (hs_P S i 6), .int (hs_P S i 7), .int (hs_P S i 8), .int (hs_P S i 9)] := by
        have q := hP.m 1 i hi4
        rw [show hp_e Z ad S T 1 i = hw_ob 3 [.int (nI i), .ref (ad 2 i), .ref (ad 6 i), .int (hs_P S i 0), .int (nI (hs_D S i)), .double (hs_U S i), .int (hs_P S i 3), hp_ref (ad 9) (hs_P S i 4), .int (hs_P S i 5), .int (hs_P S i 6), .int (hs_P S i 7), .int (hs_P S i 8), .int (hs_P S i 9)] from rfl] at q
        rw [hp_refs hm] at q
        exact q
      have hig : hb_ix (hs_P S i 4) < 2 := hB.pm hi4 hm
      refine lv_aload_n hx hb dX5_recall_20 rfl (lv_at hl 2 rfl) ?_
      refine hw_get hx hb hts hown hk hI fd_X5_11 e0_0hP rfl dX5_recall_21 ?_
      refine lv_iload hx hb dX5_recall_24 (lv_at hl 1 rfl) ?_
      refine hw_aald hx hb hk hI 3 (v := .ref (ad 1 i)) e0_1hP rfl (j := i) rfl (by omega) (by decide) rfl dX5_recall_26 ?_
      refine hw_get hx hb hts hown hk hI fd_X5_239 e1_ihP rfl dX5_recall_27 ?_
      refine lv_ifnull hx hb dX5_recall_30 ?_
      refine lv_aload_n hx hb dX5_recall_33 rfl (lv_at hl 2 rfl) ?_
      refine hw_get hx hb hts hown hk hI fd_X5_11 e0_0hP rfl dX5_recall_34 ?_
      refine lv_iload hx hb dX5_recall_37 (lv_at hl 1 rfl) ?_
      refine hw_aald hx hb hk hI 3 (v := .ref (ad 1 i)) e0_1hP rfl (j := i) rfl (by omega) (by decide) rfl dX5_recall_39 ?_
      refine hw_get hx hb hts hown hk hI fd_X5_278 e1_ihP rfl dX5_recall_40 ?_
      refine lv_iconst (v := nI 1) hx hb dX5_recall_43 (by decide) ?_
      refine lv_aload_n hx hb dX5_recall_44 rfl (lv_at hl 3 rfl) ?_
      refine hw_get hx hb hts hown hk hI fd_X5_114 e8_hb_ix_kahP rfl dX5_recall_45 ?_
      refine lv_ishl hx hb dX5_recall_48 ?_
      refine lv_iand hx hb dX5_recall_49 ?_
      refine lv_if_eq (tgt := 60) hx hb dX5_recall_50 (by decide) (fun c50 => ?_) (fun c50 => ?_)
      · refine lv_iinc (v := nI (i + 1)) (lv' := [(4, .int (nI (i + 1))), (3, .int (hs_re S (hb_ix ka) i)), (0, .ref (ad 0 0)), (2, .ref (ad 8 (hb_ix ka)))]) hx hb dX5_recall_60 hl (k := 1) rfl (hw_inc _) (by decide) rfl (fun ls hl => ?_)
        refine lv_goto (tgt := 11) hx hb dX5_recall_63 (by decide) ?_
        exact ih11 _ _ _ hI (lv_sub hl [1, 0, 2, 3] (by rw [show hs_re S (hb_ix ka) (i + 1) = _ from if_neg (fun q => q.2 c50)]; rfl))
      · refine lv_iload_n hx hb dX5_recall_53 rfl (lv_at hl 0 rfl) ?_
        refine lv_iconst (v := nI 1) hx hb dX5_recall_54 (by decide) ?_
        refine lv_iload hx hb dX5_recall_55 (lv_at hl 1 rfl) ?_
        refine lv_ishl hx hb dX5_recall_57 ?_
        refine lv_ior hx hb dX5_recall_58 ?_
        refine lv_istore_n (lv' := [(3, .int ((hs_re S (hb_ix ka) i) ||| ((nI 1) <<< ((nI i) &&& 31)))), (4, .int (nI i)), (0, .ref (ad 0 0)), (2, .ref (ad 8 (hb_ix ka)))]) hx hb dX5_recall_59 rfl hl (by decide) rfl (fun ls hl => ?_)
        refine lv_iinc (v := nI (i + 1)) (lv' := [(4, .int (nI (i + 1))), (3, .int ((hs_re S (hb_ix ka) i) ||| ((nI 1) <<< ((nI i) &&& 31)))), (0, .ref (ad 0 0)), (2, .ref (ad 8 (hb_ix ka)))]) hx hb dX5_recall_60 hl (k := 1) rfl (hw_inc _) (by decide) rfl (fun ls hl => ?_)
        refine lv_goto (tgt := 11) hx hb dX5_recall_63 (by decide) ?_
        exact ih11 _ _ _ hI (lv_sub hl [1, 0, 2, 3] (by rw [show hs_re S (hb_ix ka) (i + 1) = _ from if_pos ⟨hm, c50⟩]; rfl))

set_option maxHeartbeats 4000000 in
set_option maxRecDepth 100000 in
theorem m_X5_recall_k (l : Launch) (Z : hw_Z) (M : hw_M) (ad : hp_ad) (S : hs_S) (T : hp_T) (b1 : Nat → Prop) (j : Nat) (hP : hp_ok Z b1 M ad S T) (hB : hs_b S) (hj : j < hs_nw S) : Met l yX5_recall (hw_m yX5_recall cX5_recall 5 (some .int)) ({ frames := 9, cells := 0, slots := 0, locals := 190 } : Room) (va_Pc [.ref (ad 0 0), .int (nI j)] (hw_P Z M)) (hw_Qi Z (fun r M' => hs_re S j (hs_np S) = r ∧ M = M')) 0 0 (hw_A Z) := by
  refine hw_ofi (by decide +kernel) rfl (Nat.le_of_ble_eq_true rfl) ?_
  intro p e s m below meth c ls Q hx hb hml hown hts hk hnm hI hl hret
  have hnp := hB.np
  have hnw := hB.nw
  have e0_0hP : M (ad 0 0) = hw_ob 6 [.ref (ad 0 1), .ref (ad 0 2), .ref (ad 0 3), .int (nI (hs_np S)), .int (nI (hs_nw S)), .int (hs_G S 0), .int (hs_G S 1), .ref (ad 0 4), .ref (ad 0 8)] := hP.m 0 0 (by decide)
  have e0_1hP : M (ad 0 1) = hw_ar Z 3 4 (fun j => some (ad 1 j)) := hP.m 0 1 (by decide)
  have e0_2hP : M (ad 0 2) = hw_ar Z 4 6 (fun j => some (ad 8 j)) := hP.m 0 2 (by decide)
  refine lv_aload_n hx hb dX5_recall_0 rfl (lv_at hl 0 rfl) ?_
  refine lv_iload_n hx hb dX5_recall_1 rfl (lv_at hl 1 rfl) ?_
  refine hw_cr hI (hw_rV hx hb hml hown hts hk hI (m_X5_powderAt_k l Z M (ad 0 0) (ad 0 1) (ad 0 2) (ad 0 3) (ad 0 4) (ad 0 8) (hs_np S) (hs_nw S) (hs_G S 0) (hs_G S 1) j (ad 8) e0_0hP e0_2hP hnw hj) cv_X5_117 e0_0hP rfl rfl ⟨rfl, rfl⟩ ⟨(Nat.le_of_ble_eq_true rfl), (Nat.le_of_ble_eq_true rfl)⟩ rfl hl.1 rfl (Nat.le_of_ble_eq_true rfl) ⟨(Nat.le_of_ble_eq_true rfl), (Nat.le_of_ble_eq_true rfl)⟩ dX5_recall_2) (fun r2 M2 H locs hR hI => ?_)
  obtain ⟨rfl, rfl⟩ := hR
  have hj6 : j < 6 := by omega
  have e8_jhP : M (ad 8 j) = hw_ob 4 [.int (nI j), .int (hs_V S j 0), .int (hs_V S j 1), .int (hs_V S j 2), .int (hs_V S j 3), .int (hs_V S j 4)] := hP.m 8 j hj6
  refine lv_astore_n (lv' := [(2, .ref (ad 8 j)), (0, .ref (ad 0 0)), (1, .int (nI j))]) hx hb dX5_recall_5 rfl hl (by decide) rfl (fun ls hl => ?_)
  refine lv_iconst (v := nI 0) hx hb dX5_recall_6 (by decide) ?_
  refine lv_istore_n (lv' := [(3, .int (nI 0)), (2, .ref (ad 8 j)), (0, .ref (ad 0 0)), (1, .int (nI j))]) hx hb dX5_recall_7 rfl hl (by decide) rfl (fun ls hl => ?_)
  refine lv_iconst (v := nI 0) hx hb dX5_recall_8 (by decide) ?_
  refine lv_istore (lv' := [(4, .int (nI 0)), (3, .int (nI 0)), (2, .ref (ad 8 j)), (0, .ref (ad 0 0)), (1, .int (nI j))]) hx hb dX5_recall_9 hl (by decide) rfl (fun ls hl => ?_)
  suffices LP11 : ∀ i, i ≤ hs_np S → ∀ (H : Heap) (locs : List Loc) (ls : Array Slot), hw_iv Z s (M) H locs → lv_has ls 5 [(3, .int (hs_re S j i)), (4, .int (nI i)), (0, .ref (ad 0 0)), (2, .ref (ad 8 j))] → W p l e ({ frames := 9, cells := 0, slots := 0, locals := 190 } : Room) s m ([.ref (ad 0 0), .int (nI j)] : List Value).toArray below meth c H locs 0 0 Q (F0 m 11 ls []) from LP11 0 (by omega) _ _ _ hI (lv_sub hl [1, 0, 3, 2] rfl)
  refine hw_loop ?_ (fun i hi11 ih11 => ?_)
  · intro H locs ls hI hl
    refine lv_iload hx hb dX5_recall_11 (lv_at hl 1 rfl) ?_
    refine lv_aload_n hx hb dX5_recall_13 rfl (lv_at hl 2 rfl) ?_
    refine hw_get hx hb hts hown hk hI fd_X5_46 e0_0hP rfl dX5_recall_14 ?_
    refine lv_icmp_ge (tgt := 66) hx hb dX5_recall_17 (by decide) (fun _ => ?_) (fun hc => absurd (Int32.le_refl _) hc)
    refine lv_iload_n hx hb dX5_recall_66 rfl (lv_at hl 0 rfl) ?_
    exact hret hI (⟨rfl, rfl⟩) (Nat.le_of_ble_eq_true rfl) (Nat.le_of_ble_eq_true rfl) dX5_recall_67
  · intro H locs ls hI hl
    refine lv_iload hx hb dX5_recall_11 (lv_at hl 1 rfl) ?_
    refine lv_aload_n hx hb dX5_recall_13 rfl (lv_at hl 2 rfl) ?_
    refine hw_get hx hb hts hown hk hI fd_X5_46 e0_0hP rfl dX5_recall_14 ?_
    refine lv_icmp_ge (tgt := 66) hx hb dX5_recall_17 (by decide) (fun hc => absurd hc (nI_ge hi11 (by omega))) (fun _ => ?_)
    have hi4 : i < 4 := by omega
    by_cases hm : hs_P S i 4 = -1
    · have e1_ihP : M (ad 1 i) = hw_ob 3 [.int (nI i), .ref (ad 2 i), .ref (ad 6 i), .int (hs_P S i 0), .int (nI (hs_D S i)), .double (hs_U S i), .int (hs_P S i 3), .null, .int (hs_P S i 5), .int (hs_P S i 6), .int (hs_P S i 7), .int (hs_P S i 8), .int (hs_P S i 9)] := by
        have q := hP.m 1 i hi4
        rw [show hp_e Z ad S T 1 i = hw_ob 3 [.int (nI i), .ref (ad 2 i), .ref (ad 6 i), .int (hs_P S i 0), .int (nI (hs_D S i)), .double (hs_U S i), .int (hs_P S i 3), hp_ref (ad 9) (hs_P S i 4), .int (hs_P S i 5), .int (hs_P S i 6), .int (hs_P S i 7), .int (hs_P S i 8), .int (hs_P S i 9)] from rfl] at q
        rw [hp_refn hm] at q
        exact q
      refine lv_aload_n hx hb dX5_recall_20 rfl (lv_at hl 2 rfl) ?_
      refine hw_get hx hb hts hown hk hI fd_X5_11 e0_0hP rfl dX5_recall_21 ?_
      refine lv_iload hx hb dX5_recall_24 (lv_at hl 1 rfl) ?_
      refine hw_aald hx hb hk hI 3 (v := .ref (ad 1 i)) e0_1hP rfl (j := i) rfl (by omega) (by decide) rfl dX5_recall_26 ?_
      refine hw_get hx hb hts hown hk hI fd_X5_239 e1_ihP rfl dX5_recall_27 ?_
      refine lv_ifnullN (tgt := 60) hx hb dX5_recall_30 (by decide) ?_
      refine lv_iinc (v := nI (i + 1)) (lv' := [(4, .int (nI (i + 1))), (3, .int (hs_re S j i)), (0, .ref (ad 0 0)), (2, .ref (ad 8 j))]) hx hb dX5_recall_60 hl (k := 1) rfl (hw_inc _) (by decide) rfl (fun ls hl => ?_)
      refine lv_goto (tgt := 11) hx hb dX5_recall_63 (by decide) ?_
      exact ih11 _ _ _ hI (lv_sub hl [1, 0, 2, 3] (by rw [show hs_re S j (i + 1) = _ from if_neg (fun q => q.1 hm)]; rfl))
    · have e1_ihP : M (ad 1 i) = hw_ob 3 [.int (nI i), .ref (ad 2 i), .ref (ad 6 i), .int (hs_P S i 0), .int (nI (hs_D S i)), .double (hs_U S i), .int (hs_P S i 3), .ref (ad 9 (hb_ix (hs_P S i 4))), .int (hs_P S i 5), .int (hs_P S i 6), .int (hs_P S i 7), .int (hs_P S i 8), .int (hs_P S i 9)] := by
        have q := hP.m 1 i hi4
        rw [show hp_e Z ad S T 1 i = hw_ob 3 [.int (nI i), .ref (ad 2 i), .ref (ad 6 i), .int (hs_P S i 0), .int (nI (hs_D S i)), .double (hs_U S i), .int (hs_P S i 3), hp_ref (ad 9) (hs_P S i 4), .int (hs_P S i 5), .int (hs_P S i 6), .int (hs_P S i 7), .int (hs_P S i 8), .int (hs_P S i 9)] from rfl] at q
        rw [hp_refs hm] at q
        exact q
      have hig : hb_ix (hs_P S i 4) < 2 := hB.pm hi4 hm
      refine lv_aload_n hx hb dX5_recall_20 rfl (lv_at hl 2 rfl) ?_
      refine hw_get hx hb hts hown hk hI fd_X5_11 e0_0hP rfl dX5_recall_21 ?_
      refine lv_iload hx hb dX5_recall_24 (lv_at hl 1 rfl) ?_
      refine hw_aald hx hb hk hI 3 (v := .ref (ad 1 i)) e0_1hP rfl (j := i) rfl (by omega) (by decide) rfl dX5_recall_26 ?_
      refine hw_get hx hb hts hown hk hI fd_X5_239 e1_ihP rfl dX5_recall_27 ?_
      refine lv_ifnull hx hb dX5_recall_30 ?_
      refine lv_aload_n hx hb dX5_recall_33 rfl (lv_at hl 2 rfl) ?_
      refine hw_get hx hb hts hown hk hI fd_X5_11 e0_0hP rfl dX5_recall_34 ?_
      refine lv_iload hx hb dX5_recall_37 (lv_at hl 1 rfl) ?_
      refine hw_aald hx hb hk hI 3 (v := .ref (ad 1 i)) e0_1hP rfl (j := i) rfl (by omega) (by decide) rfl dX5_recall_39 ?_
      refine hw_get hx hb hts hown hk hI fd_X5_278 e1_ihP rfl dX5_recall_40 ?_
      refine lv_iconst (v := nI 1) hx hb dX5_recall_43 (by decide) ?_
      refine lv_aload_n hx hb dX5_recall_44 rfl (lv_at hl 3 rfl) ?_
      refine hw_get hx hb hts hown hk hI fd_X5_114 e8_jhP rfl dX5_recall_45 ?_
      refine lv_ishl hx hb dX5_recall_48 ?_
      refine lv_iand hx hb dX5_recall_49 ?_
      refine lv_if_eq (tgt := 60) hx hb dX5_recall_50 (by decide) (fun c50 => ?_) (fun c50 => ?_)
      · refine lv_iinc (v := nI (i + 1)) (lv' := [(4, .int (nI (i + 1))), (3, .int (hs_re S j i)), (0, .ref (ad 0 0)), (2, .ref (ad 8 j))]) hx hb dX5_recall_60 hl (k := 1) rfl (hw_inc _) (by decide) rfl (fun ls hl => ?_)
        refine lv_goto (tgt := 11) hx hb dX5_recall_63 (by decide) ?_
        exact ih11 _ _ _ hI (lv_sub hl [1, 0, 2, 3] (by rw [show hs_re S j (i + 1) = _ from if_neg (fun q => q.2 c50)]; rfl))
      · refine lv_iload_n hx hb dX5_recall_53 rfl (lv_at hl 0 rfl) ?_
        refine lv_iconst (v := nI 1) hx hb dX5_recall_54 (by decide) ?_
        refine lv_iload hx hb dX5_recall_55 (lv_at hl 1 rfl) ?_
        refine lv_ishl hx hb dX5_recall_57 ?_
        refine lv_ior hx hb dX5_recall_58 ?_
        refine lv_istore_n (lv' := [(3, .int ((hs_re S j i) ||| ((nI 1) <<< ((nI i) &&& 31)))), (4, .int (nI i)), (0, .ref (ad 0 0)), (2, .ref (ad 8 j))]) hx hb dX5_recall_59 rfl hl (by decide) rfl (fun ls hl => ?_)
        refine lv_iinc (v := nI (i + 1)) (lv' := [(4, .int (nI (i + 1))), (3, .int ((hs_re S j i) ||| ((nI 1) <<< ((nI i) &&& 31)))), (0, .ref (ad 0 0)), (2, .ref (ad 8 j))]) hx hb dX5_recall_60 hl (k := 1) rfl (hw_inc _) (by decide) rfl (fun ls hl => ?_)
        refine lv_goto (tgt := 11) hx hb dX5_recall_63 (by decide) ?_
        exact ih11 _ _ _ hI (lv_sub hl [1, 0, 2, 3] (by rw [show hs_re S j (i + 1) = _ from if_pos ⟨hm, c50⟩]; rfl))

set_option maxHeartbeats 4000000 in
set_option maxRecDepth 100000 in
theorem m_X5_proofsOfAll (l : Launch) (Z : hw_Z) (M : hw_M) (ad : hp_ad) (S : hs_S) (T : hp_T) (b1 : Nat → Prop) (hP : hp_ok Z b1 M ad S T) (hB : hs_b S) : Met l yX5_proofsOfAll (hw_m yX5_proofsOfAll cX5_proofsOfAll 3 (some .int)) ({ frames := 1, cells := 0, slots := 0, locals := 30 } : Room) (va_Pc [.ref (ad 0 0)] (hw_P Z M)) (hw_Qi Z (fun r M' => nI (hs_N S 0 + hs_N S 1) = r ∧ M = M')) 0 0 (hw_A Z) := by
  refine hw_ofi (by decide +kernel) rfl (Nat.le_of_ble_eq_true rfl) ?_
  intro p e s m below meth c ls Q hx hb hml hown hts hk hnm hI hl hret
  have hnp := hB.np
  have hnw := hB.nw
  have e0_0hP : M (ad 0 0) = hw_ob 6 [.ref (ad 0 1), .ref (ad 0 2), .ref (ad 0 3), .int (nI (hs_np S)), .int (nI (hs_nw S)), .int (hs_G S 0), .int (hs_G S 1), .ref (ad 0 4), .ref (ad 0 8)] := hP.m 0 0 (by decide)
  have e0_3hP : M (ad 0 3) = hw_ar Z 5 2 (fun j => some (ad 9 j)) := hP.m 0 3 (by decide)
  have e9_0hP : M (ad 9 0) = hw_ob 1 [.int (nI 0), .int (hs_M S 0 0), hp_ref (ad 8) (hs_M S 0 1), .int (hs_M S 0 2), hp_ref (ad 1) (hs_M S 0 3), .ref (ad 10 0), .int (nI (hs_N S 0))] := hP.m 9 0 (by decide)
  have e9_1hP : M (ad 9 1) = hw_ob 1 [.int (nI 1), .int (hs_M S 1 0), hp_ref (ad 8) (hs_M S 1 1), .int (hs_M S 1 2), hp_ref (ad 1) (hs_M S 1 3), .ref (ad 10 1), .int (nI (hs_N S 1))] := hP.m 9 1 (by decide)
  refine lv_iconst (v := nI 0) hx hb dX5_proofsOfAll_0 (by decide) ?_
  refine lv_istore_n (lv' := [(1, .int (nI 0)), (0, .ref (ad 0 0))]) hx hb dX5_proofsOfAll_1 rfl hl (by decide) rfl (fun ls hl => ?_)
  refine lv_iconst (v := nI 0) hx hb dX5_proofsOfAll_2 (by decide) ?_
  refine lv_istore_n (lv' := [(2, .int (nI 0)), (1, .int (nI 0)), (0, .ref (ad 0 0))]) hx hb dX5_proofsOfAll_3 rfl hl (by decide) rfl (fun ls hl => ?_)
  refine lv_iload_n hx hb dX5_proofsOfAll_4 rfl (lv_at hl 0 rfl) ?_
  refine lv_iconst (v := nI 2) hx hb dX5_proofsOfAll_5 (by decide) ?_
  refine lv_icmp_ge (tgt := 27) hx hb dX5_proofsOfAll_6 (by decide) (fun hc => absurd hc (by decide)) (fun _ => ?_)
  refine lv_iload_n hx hb dX5_proofsOfAll_9 rfl (lv_at hl 1 rfl) ?_
  refine lv_aload_n hx hb dX5_proofsOfAll_10 rfl (lv_at hl 2 rfl) ?_
  refine hw_get hx hb hts hown hk hI fd_X5_23 e0_0hP rfl dX5_proofsOfAll_11 ?_
  refine lv_iload_n hx hb dX5_proofsOfAll_14 rfl (lv_at hl 0 rfl) ?_
  refine hw_aald hx hb hk hI 5 (v := .ref (ad 9 0)) e0_3hP rfl (j := 0) rfl (by omega) (by decide) rfl dX5_proofsOfAll_15 ?_
  refine hw_get hx hb hts hown hk hI fd_X5_174 e9_0hP rfl dX5_proofsOfAll_16 ?_
  refine lv_iadd hx hb dX5_proofsOfAll_19 ?_
  refine hw_ti (nI_add _ _) ?_
  refine lv_istore_n (lv' := [(1, .int (nI (0 + (hs_N S 0)))), (2, .int (nI 0)), (0, .ref (ad 0 0))]) hx hb dX5_proofsOfAll_20 rfl hl (by decide) rfl (fun ls hl => ?_)
  refine lv_iinc (v := nI 1) (lv' := [(2, .int (nI 1)), (1, .int (nI (0 + (hs_N S 0)))), (0, .ref (ad 0 0))]) hx hb dX5_proofsOfAll_21 hl (k := 1) rfl (by decide) (by decide) rfl (fun ls hl => ?_)
  refine lv_goto (tgt := 4) hx hb dX5_proofsOfAll_24 (by decide) ?_
  refine lv_iload_n hx hb dX5_proofsOfAll_4 rfl (lv_at hl 0 rfl) ?_
  refine lv_iconst (v := nI 2) hx hb dX5_proofsOfAll_5 (by decide) ?_
  refine lv_icmp_ge (tgt := 27) hx hb dX5_proofsOfAll_6 (by decide) (fun hc => absurd hc (by decide)) (fun _ => ?_)
  refine lv_iload_n hx hb dX5_proofsOfAll_9 rfl (lv_at hl 1 rfl) ?_
  refine lv_aload_n hx hb dX5_proofsOfAll_10 rfl (lv_at hl 2 rfl) ?_
  refine hw_get hx hb hts hown hk hI fd_X5_23 e0_0hP rfl dX5_proofsOfAll_11 ?_
  refine lv_iload_n hx hb dX5_proofsOfAll_14 rfl (lv_at hl 0 rfl) ?_
  refine hw_aald hx hb hk hI 5 (v := .ref (ad 9 1)) e0_3hP rfl (j := 1) rfl (by omega) (by decide) rfl dX5_proofsOfAll_15 ?_
  refine hw_get hx hb hts hown hk hI fd_X5_174 e9_1hP rfl dX5_proofsOfAll_16 ?_
  refine lv_iadd hx hb dX5_proofsOfAll_19 ?_
  refine hw_ti (nI_add _ _) ?_
  refine lv_istore_n (lv' := [(1, .int (nI ((0 + (hs_N S 0)) + (hs_N S 1)))), (2, .int (nI 1)), (0, .ref (ad 0 0))]) hx hb dX5_proofsOfAll_20 rfl hl (by decide) rfl (fun ls hl => ?_)
  refine lv_iinc (v := nI 2) (lv' := [(2, .int (nI 2)), (1, .int (nI ((0 + (hs_N S 0)) + (hs_N S 1)))), (0, .ref (ad 0 0))]) hx hb dX5_proofsOfAll_21 hl (k := 1) rfl (by decide) (by decide) rfl (fun ls hl => ?_)
  refine lv_goto (tgt := 4) hx hb dX5_proofsOfAll_24 (by decide) ?_
  refine lv_iload_n hx hb dX5_proofsOfAll_4 rfl (lv_at hl 0 rfl) ?_
  refine lv_iconst (v := nI 2) hx hb dX5_proofsOfAll_5 (by decide) ?_
  refine lv_icmp_ge (tgt := 27) hx hb dX5_proofsOfAll_6 (by decide) (fun _ => ?_) (fun hc => absurd (by decide) hc)
  refine lv_iload_n hx hb dX5_proofsOfAll_27 rfl (lv_at hl 1 rfl) ?_
  exact hret hI (⟨by rw [Nat.zero_add], rfl⟩) (Nat.le_of_ble_eq_true rfl) (Nat.le_of_ble_eq_true rfl) dX5_proofsOfAll_28

set_option maxHeartbeats 4000000 in
set_option maxRecDepth 100000 in
theorem m_X5_piecesThatAre (l : Launch) (Z : hw_Z) (M : hw_M) (ad : hp_ad) (S : hs_S) (T : hp_T) (b1 : Nat → Prop) (kx : Int32) (hP : hp_ok Z b1 M ad S T) (hB : hs_b S) : Met l yX5_piecesThatAre (hw_m yX5_piecesThatAre cX5_piecesThatAre 4 (some .int)) ({ frames := 1, cells := 0, slots := 0, locals := 30 } : Room) (va_Pc [.ref (ad 0 0), .int kx] (hw_P Z M)) (hw_Qi Z (fun r M' => nI (hs_ca S kx (hs_np S)) = r ∧ M = M')) 0 0 (hw_A Z) := by
  refine hw_ofi (by decide +kernel) rfl (Nat.le_of_ble_eq_true rfl) ?_
  intro p e s m below meth c ls Q hx hb hml hown hts hk hnm hI hl hret
  have hnp := hB.np
  have hnw := hB.nw
  have e0_0hP : M (ad 0 0) = hw_ob 6 [.ref (ad 0 1), .ref (ad 0 2), .ref (ad 0 3), .int (nI (hs_np S)), .int (nI (hs_nw S)), .int (hs_G S 0), .int (hs_G S 1), .ref (ad 0 4), .ref (ad 0 8)] := hP.m 0 0 (by decide)
  have e0_1hP : M (ad 0 1) = hw_ar Z 3 4 (fun j => some (ad 1 j)) := hP.m 0 1 (by decide)
  refine lv_iconst (v := nI 0) hx hb dX5_piecesThatAre_0 (by decide) ?_
  refine lv_istore_n (lv' := [(2, .int (nI 0)), (0, .ref (ad 0 0)), (1, .int kx)]) hx hb dX5_piecesThatAre_1 rfl hl (by decide) rfl (fun ls hl => ?_)
  refine lv_iconst (v := nI 0) hx hb dX5_piecesThatAre_2 (by decide) ?_
  refine lv_istore_n (lv' := [(3, .int (nI 0)), (2, .int (nI 0)), (0, .ref (ad 0 0)), (1, .int kx)]) hx hb dX5_piecesThatAre_3 rfl hl (by decide) rfl (fun ls hl => ?_)
  suffices LP4 : ∀ i, i ≤ hs_np S → ∀ (H : Heap) (locs : List Loc) (ls : Array Slot), hw_iv Z s (M) H locs → lv_has ls 4 [(2, .int (nI (hs_ca S kx i))), (3, .int (nI i)), (0, .ref (ad 0 0)), (1, .int kx)] → W p l e ({ frames := 1, cells := 0, slots := 0, locals := 30 } : Room) s m ([.ref (ad 0 0), .int kx] : List Value).toArray below meth c H locs 0 0 Q (F0 m 4 ls []) from LP4 0 (by omega) _ _ _ hI (lv_sub hl [1, 0, 2, 3] rfl)
  refine hw_loop ?_ (fun i hi4 ih4 => ?_)
  · intro H locs ls hI hl
    refine lv_iload_n hx hb dX5_piecesThatAre_4 rfl (lv_at hl 1 rfl) ?_
    refine lv_aload_n hx hb dX5_piecesThatAre_5 rfl (lv_at hl 2 rfl) ?_
    refine hw_get hx hb hts hown hk hI fd_X5_46 e0_0hP rfl dX5_piecesThatAre_6 ?_
    refine lv_icmp_ge (tgt := 34) hx hb dX5_piecesThatAre_9 (by decide) (fun _ => ?_) (fun hc => absurd (Int32.le_refl _) hc)
    refine lv_iload_n hx hb dX5_piecesThatAre_34 rfl (lv_at hl 0 rfl) ?_
    exact hret hI (⟨rfl, rfl⟩) (Nat.le_of_ble_eq_true rfl) (Nat.le_of_ble_eq_true rfl) dX5_piecesThatAre_35
  · intro H locs ls hI hl
    refine lv_iload_n hx hb dX5_piecesThatAre_4 rfl (lv_at hl 1 rfl) ?_
    refine lv_aload_n hx hb dX5_piecesThatAre_5 rfl (lv_at hl 2 rfl) ?_
    refine hw_get hx hb hts hown hk hI fd_X5_46 e0_0hP rfl dX5_piecesThatAre_6 ?_
    refine lv_icmp_ge (tgt := 34) hx hb dX5_piecesThatAre_9 (by decide) (fun hc => absurd hc (nI_ge hi4 (by omega))) (fun _ => ?_)
    have hi4 : i < 4 := by omega
    have e1_ihP : M (ad 1 i) = hw_ob 3 [.int (nI i), .ref (ad 2 i), .ref (ad 6 i), .int (hs_P S i 0), .int (nI (hs_D S i)), .double (hs_U S i), .int (hs_P S i 3), hp_ref (ad 9) (hs_P S i 4), .int (hs_P S i 5), .int (hs_P S i 6), .int (hs_P S i 7), .int (hs_P S i 8), .int (hs_P S i 9)] := hP.m 1 i hi4
    refine lv_aload_n hx hb dX5_piecesThatAre_12 rfl (lv_at hl 2 rfl) ?_
    refine hw_get hx hb hts hown hk hI fd_X5_11 e0_0hP rfl dX5_piecesThatAre_13 ?_
    refine lv_iload_n hx hb dX5_piecesThatAre_16 rfl (lv_at hl 1 rfl) ?_
    refine hw_aald hx hb hk hI 3 (v := .ref (ad 1 i)) e0_1hP rfl (j := i) rfl (by omega) (by decide) rfl dX5_piecesThatAre_17 ?_
    refine hw_get hx hb hts hown hk hI fd_X5_171 e1_ihP rfl dX5_piecesThatAre_18 ?_
    refine lv_iload_n hx hb dX5_piecesThatAre_21 rfl (lv_at hl 3 rfl) ?_
    refine lv_icmp_ne (tgt := 28) hx hb dX5_piecesThatAre_22 (by decide) (fun c22 => ?_) (fun c22 => ?_)
    · refine lv_iinc (v := nI (i + 1)) (lv' := [(3, .int (nI (i + 1))), (2, .int (nI (hs_ca S kx i))), (0, .ref (ad 0 0)), (1, .int kx)]) hx hb dX5_piecesThatAre_28 hl (k := 1) rfl (hw_inc _) (by decide) rfl (fun ls hl => ?_)
      refine lv_goto (tgt := 4) hx hb dX5_piecesThatAre_31 (by decide) ?_
      exact ih4 _ _ _ hI (lv_sub hl [1, 0, 2, 3] (by rw [show hs_ca S kx (i + 1) = _ from if_neg c22]; rfl))
    · refine lv_iinc (v := nI (hs_ca S kx i + 1)) (lv' := [(2, .int (nI (hs_ca S kx i + 1))), (3, .int (nI i)), (0, .ref (ad 0 0)), (1, .int kx)]) hx hb dX5_piecesThatAre_25 hl (k := 0) rfl (hw_inc _) (by decide) rfl (fun ls hl => ?_)
      refine lv_iinc (v := nI (i + 1)) (lv' := [(3, .int (nI (i + 1))), (2, .int (nI (hs_ca S kx i + 1))), (0, .ref (ad 0 0)), (1, .int kx)]) hx hb dX5_piecesThatAre_28 hl (k := 1) rfl (hw_inc _) (by decide) rfl (fun ls hl => ?_)
      refine lv_goto (tgt := 4) hx hb dX5_piecesThatAre_31 (by decide) ?_
      exact ih4 _ _ _ hI (lv_sub hl [1, 0, 2, 3] (by rw [show hs_ca S kx (i + 1) = _ from if_pos c22]; rfl))

set_option maxHeartbeats 4000000 in
set_option maxRecDepth 100000 in
theorem m_X5_gramsOfAll (l : Launch) (Z : hw_Z) (M : hw_M) (ad : hp_ad) (S : hs_S) (T : hp_T) (b1 : Nat → Prop) (hP : hp_ok Z b1 M ad S T) (hB : hs_b S) : Met l yX5_gramsOfAll (hw_m yX5_gramsOfAll cX5_gramsOfAll 3 (some .int)) ({ frames := 1, cells := 0, slots := 0, locals := 30 } : Room) (va_Pc [.ref (ad 0 0)] (hw_P Z M)) (hw_Qi Z (fun r M' => hs_gs S (hs_nw S) + hs_M S 0 2 + hs_M S 1 2 = r ∧ M = M')) 0 0 (hw_A Z) := by
  refine hw_ofi (by decide +kernel) rfl (Nat.le_of_ble_eq_true rfl) ?_
  intro p e s m below meth c ls Q hx hb hml hown hts hk hnm hI hl hret
  have hnp := hB.np
  have hnw := hB.nw
  have e0_0hP : M (ad 0 0) = hw_ob 6 [.ref (ad 0 1), .ref (ad 0 2), .ref (ad 0 3), .int (nI (hs_np S)), .int (nI (hs_nw S)), .int (hs_G S 0), .int (hs_G S 1), .ref (ad 0 4), .ref (ad 0 8)] := hP.m 0 0 (by decide)
  have e0_2hP : M (ad 0 2) = hw_ar Z 4 6 (fun j => some (ad 8 j)) := hP.m 0 2 (by decide)
  have e0_3hP : M (ad 0 3) = hw_ar Z 5 2 (fun j => some (ad 9 j)) := hP.m 0 3 (by decide)
  have e9_0hP : M (ad 9 0) = hw_ob 1 [.int (nI 0), .int (hs_M S 0 0), hp_ref (ad 8) (hs_M S 0 1), .int (hs_M S 0 2), hp_ref (ad 1) (hs_M S 0 3), .ref (ad 10 0), .int (nI (hs_N S 0))] := hP.m 9 0 (by decide)
  have e9_1hP : M (ad 9 1) = hw_ob 1 [.int (nI 1), .int (hs_M S 1 0), hp_ref (ad 8) (hs_M S 1 1), .int (hs_M S 1 2), hp_ref (ad 1) (hs_M S 1 3), .ref (ad 10 1), .int (nI (hs_N S 1))] := hP.m 9 1 (by decide)
  refine lv_iconst (v := nI 0) hx hb dX5_gramsOfAll_0 (by decide) ?_
  refine lv_istore_n (lv' := [(1, .int (nI 0)), (0, .ref (ad 0 0))]) hx hb dX5_gramsOfAll_1 rfl hl (by decide) rfl (fun ls hl => ?_)
  refine lv_iconst (v := nI 0) hx hb dX5_gramsOfAll_2 (by decide) ?_
  refine lv_istore_n (lv' := [(2, .int (nI 0)), (1, .int (nI 0)), (0, .ref (ad 0 0))]) hx hb dX5_gramsOfAll_3 rfl hl (by decide) rfl (fun ls hl => ?_)
  suffices LP4 : ∀ i, i ≤ hs_nw S → ∀ (H : Heap) (locs : List Loc) (ls : Array Slot), hw_iv Z s (M) H locs → lv_has ls 3 [(1, .int (hs_gs S i)), (2, .int (nI i)), (0, .ref (ad 0 0))] → W p l e ({ frames := 1, cells := 0, slots := 0, locals := 30 } : Room) s m ([.ref (ad 0 0)] : List Value).toArray below meth c H locs 0 0 Q (F0 m 4 ls []) from LP4 0 (by omega) _ _ _ hI (lv_sub hl [1, 0, 2] rfl)
  refine hw_loop ?_ (fun i hi4 ih4 => ?_)
  · intro H locs ls hI hl
    refine lv_iload_n hx hb dX5_gramsOfAll_4 rfl (lv_at hl 1 rfl) ?_
    refine lv_aload_n hx hb dX5_gramsOfAll_5 rfl (lv_at hl 2 rfl) ?_
    refine hw_get hx hb hts hown hk hI fd_X5_103 e0_0hP rfl dX5_gramsOfAll_6 ?_
    refine lv_icmp_ge (tgt := 30) hx hb dX5_gramsOfAll_9 (by decide) (fun _ => ?_) (fun hc => absurd (Int32.le_refl _) hc)
    refine lv_iconst (v := nI 0) hx hb dX5_gramsOfAll_30 (by decide) ?_
    refine lv_istore_n (lv' := [(2, .int (nI 0)), (1, .int (hs_gs S (hs_nw S))), (0, .ref (ad 0 0))]) hx hb dX5_gramsOfAll_31 rfl hl (by decide) rfl (fun ls hl => ?_)
    refine lv_iload_n hx hb dX5_gramsOfAll_32 rfl (lv_at hl 0 rfl) ?_
    refine lv_iconst (v := nI 2) hx hb dX5_gramsOfAll_33 (by decide) ?_
    refine lv_icmp_ge (tgt := 55) hx hb dX5_gramsOfAll_34 (by decide) (fun hc => absurd hc (by decide)) (fun _ => ?_)
    refine lv_iload_n hx hb dX5_gramsOfAll_37 rfl (lv_at hl 1 rfl) ?_
    refine lv_aload_n hx hb dX5_gramsOfAll_38 rfl (lv_at hl 2 rfl) ?_
    refine hw_get hx hb hts hown hk hI fd_X5_23 e0_0hP rfl dX5_gramsOfAll_39 ?_
    refine lv_iload_n hx hb dX5_gramsOfAll_42 rfl (lv_at hl 0 rfl) ?_
    refine hw_aald hx hb hk hI 5 (v := .ref (ad 9 0)) e0_3hP rfl (j := 0) rfl (by omega) (by decide) rfl dX5_gramsOfAll_43 ?_
    refine hw_get hx hb hts hown hk hI fd_X5_157 e9_0hP rfl dX5_gramsOfAll_44 ?_
    refine lv_iadd hx hb dX5_gramsOfAll_47 ?_
    refine lv_istore_n (lv' := [(1, .int ((hs_gs S (hs_nw S)) + (hs_M S 0 2))), (2, .int (nI 0)), (0, .ref (ad 0 0))]) hx hb dX5_gramsOfAll_48 rfl hl (by decide) rfl (fun ls hl => ?_)
    refine lv_iinc (v := nI 1) (lv' := [(2, .int (nI 1)), (1, .int ((hs_gs S (hs_nw S)) + (hs_M S 0 2))), (0, .ref (ad 0 0))]) hx hb dX5_gramsOfAll_49 hl (k := 1) rfl (by decide) (by decide) rfl (fun ls hl => ?_)
    refine lv_goto (tgt := 32) hx hb dX5_gramsOfAll_52 (by decide) ?_
    refine lv_iload_n hx hb dX5_gramsOfAll_32 rfl (lv_at hl 0 rfl) ?_
    refine lv_iconst (v := nI 2) hx hb dX5_gramsOfAll_33 (by decide) ?_
    refine lv_icmp_ge (tgt := 55) hx hb dX5_gramsOfAll_34 (by decide) (fun hc => absurd hc (by decide)) (fun _ => ?_)
    refine lv_iload_n hx hb dX5_gramsOfAll_37 rfl (lv_at hl 1 rfl) ?_
    refine lv_aload_n hx hb dX5_gramsOfAll_38 rfl (lv_at hl 2 rfl) ?_
    refine hw_get hx hb hts hown hk hI fd_X5_23 e0_0hP rfl dX5_gramsOfAll_39 ?_
    refine lv_iload_n hx hb dX5_gramsOfAll_42 rfl (lv_at hl 0 rfl) ?_
    refine hw_aald hx hb hk hI 5 (v := .ref (ad 9 1)) e0_3hP rfl (j := 1) rfl (by omega) (by decide) rfl dX5_gramsOfAll_43 ?_
    refine hw_get hx hb hts hown hk hI fd_X5_157 e9_1hP rfl dX5_gramsOfAll_44 ?_
    refine lv_iadd hx hb dX5_gramsOfAll_47 ?_
    refine lv_istore_n (lv' := [(1, .int (((hs_gs S (hs_nw S)) + (hs_M S 0 2)) + (hs_M S 1 2))), (2, .int (nI 1)), (0, .ref (ad 0 0))]) hx hb dX5_gramsOfAll_48 rfl hl (by decide) rfl (fun ls hl => ?_)
    refine lv_iinc (v := nI 2) (lv' := [(2, .int (nI 2)), (1, .int (((hs_gs S (hs_nw S)) + (hs_M S 0 2)) + (hs_M S 1 2))), (0, .ref (ad 0 0))]) hx hb dX5_gramsOfAll_49 hl (k := 1) rfl (by decide) (by decide) rfl (fun ls hl => ?_)
    refine lv_goto (tgt := 32) hx hb dX5_gramsOfAll_52 (by decide) ?_
    refine lv_iload_n hx hb dX5_gramsOfAll_32 rfl (lv_at hl 0 rfl) ?_
    refine lv_iconst (v := nI 2) hx hb dX5_gramsOfAll_33 (by decide) ?_
    refine lv_icmp_ge (tgt := 55) hx hb dX5_gramsOfAll_34 (by decide) (fun _ => ?_) (fun hc => absurd (by decide) hc)
    refine lv_iload_n hx hb dX5_gramsOfAll_55 rfl (lv_at hl 1 rfl) ?_
    exact hret hI (⟨rfl, rfl⟩) (Nat.le_of_ble_eq_true rfl) (Nat.le_of_ble_eq_true rfl) dX5_gramsOfAll_56
  · intro H locs ls hI hl
    refine lv_iload_n hx hb dX5_gramsOfAll_4 rfl (lv_at hl 1 rfl) ?_
    refine lv_aload_n hx hb dX5_gramsOfAll_5 rfl (lv_at hl 2 rfl) ?_
    refine hw_get hx hb hts hown hk hI fd_X5_103 e0_0hP rfl dX5_gramsOfAll_6 ?_
    refine lv_icmp_ge (tgt := 30) hx hb dX5_gramsOfAll_9 (by decide) (fun hc => absurd hc (nI_ge hi4 (by omega))) (fun _ => ?_)
    have hi4 : i < 6 := by omega
    have e8_ihP : M (ad 8 i) = hw_ob 4 [.int (nI i), .int (hs_V S i 0), .int (hs_V S i 1), .int (hs_V S i 2), .int (hs_V S i 3), .int (hs_V S i 4)] := hP.m 8 i hi4
    refine lv_iload_n hx hb dX5_gramsOfAll_12 rfl (lv_at hl 0 rfl) ?_
    refine lv_aload_n hx hb dX5_gramsOfAll_13 rfl (lv_at hl 2 rfl) ?_
    refine hw_get hx hb hts hown hk hI fd_X5_17 e0_0hP rfl dX5_gramsOfAll_14 ?_
    refine lv_iload_n hx hb dX5_gramsOfAll_17 rfl (lv_at hl 1 rfl) ?_
    refine hw_aald hx hb hk hI 4 (v := .ref (ad 8 i)) e0_2hP rfl (j := i) rfl (by omega) (by decide) rfl dX5_gramsOfAll_18 ?_
    refine hw_get hx hb hts hown hk hI fd_X5_111 e8_ihP rfl dX5_gramsOfAll_19 ?_
    refine lv_iadd hx hb dX5_gramsOfAll_22 ?_
    refine lv_istore_n (lv' := [(1, .int ((hs_gs S i) + (hs_V S i 1))), (2, .int (nI i)), (0, .ref (ad 0 0))]) hx hb dX5_gramsOfAll_23 rfl hl (by decide) rfl (fun ls hl => ?_)
    refine lv_iinc (v := nI (i + 1)) (lv' := [(2, .int (nI (i + 1))), (1, .int ((hs_gs S i) + (hs_V S i 1))), (0, .ref (ad 0 0))]) hx hb dX5_gramsOfAll_24 hl (k := 1) rfl (hw_inc _) (by decide) rfl (fun ls hl => ?_)
    refine lv_goto (tgt := 4) hx hb dX5_gramsOfAll_27 (by decide) ?_
    exact ih4 _ _ _ hI (lv_sub hl [1, 0, 2] rfl)

set_option maxHeartbeats 4000000 in
set_option maxRecDepth 100000 in
theorem m_X5_many_0 (l : Launch) (hst : l.stackTraces = false) (Z : hw_Z) (M : hw_M) (ad : hp_ad) (S : hs_S) (T : hp_T) (b1 : Nat → Prop) (hP : hp_ok Z b1 M ad S T) (hB : hs_b S) : vx_Met l yX5_many (hw_m yX5_many cX5_many 2 (some .int)) ({ frames := 8, cells := 6, slots := 36, locals := 170 } : Room) (va_Pc [.ref (ad 0 0), .int (nI 0)] (hw_P Z M)) (hw_Qi Z (hq_N M S (st_many S (nI 0)))) (hw_X Z (hq_X ["java/lang/IllegalArgumentException"] M S (st_many S (nI 0)))) 6 36 (hw_A Z) := by
  refine hw_xofi hst (by decide +kernel) rfl (Nat.le_of_ble_eq_true rfl) ?_
  intro p e s m below meth c ls Q hx hb hml hown hts hk hnm hI hl hret hxo hthr hthrW
  have hnp := hB.np
  have hnw := hB.nw
  have e0_0hP : M (ad 0 0) = hw_ob 6 [.ref (ad 0 1), .ref (ad 0 2), .ref (ad 0 3), .int (nI (hs_np S)), .int (nI (hs_nw S)), .int (hs_G S 0), .int (hs_G S 1), .ref (ad 0 4), .ref (ad 0 8)] := hP.m 0 0 (by decide)
  refine lv_iload_n hx hb dX5_many_0 rfl (lv_at hl 1 rfl) ?_
  refine lv_tableIn (tgt := 48) hx hb dX5_many_1 (by decide) (by decide) rfl (by decide) ?_
  refine lv_aload_n hx hb dX5_many_48 rfl (lv_at hl 0 rfl) ?_
  refine hw_get hx hb hts hown hk hI fd_X5_46 e0_0hP rfl dX5_many_49 ?_
  exact hret hI (⟨by unfold st_many; exact if_neg (fun q => q (by decide)), rfl⟩) (Nat.le_of_ble_eq_true rfl) (Nat.le_of_ble_eq_true rfl) dX5_many_52

set_option maxHeartbeats 4000000 in
set_option maxRecDepth 100000 in
theorem m_X5_many_1 (l : Launch) (hst : l.stackTraces = false) (Z : hw_Z) (M : hw_M) (ad : hp_ad) (S : hs_S) (T : hp_T) (b1 : Nat → Prop) (hP : hp_ok Z b1 M ad S T) (hB : hs_b S) : vx_Met l yX5_many (hw_m yX5_many cX5_many 2 (some .int)) ({ frames := 8, cells := 6, slots := 36, locals := 170 } : Room) (va_Pc [.ref (ad 0 0), .int (nI 1)] (hw_P Z M)) (hw_Qi Z (hq_N M S (st_many S (nI 1)))) (hw_X Z (hq_X ["java/lang/IllegalArgumentException"] M S (st_many S (nI 1)))) 6 36 (hw_A Z) := by
  refine hw_xofi hst (by decide +kernel) rfl (Nat.le_of_ble_eq_true rfl) ?_
  intro p e s m below meth c ls Q hx hb hml hown hts hk hnm hI hl hret hxo hthr hthrW
  have hnp := hB.np
  have hnw := hB.nw
  have e0_0hP : M (ad 0 0) = hw_ob 6 [.ref (ad 0 1), .ref (ad 0 2), .ref (ad 0 3), .int (nI (hs_np S)), .int (nI (hs_nw S)), .int (hs_G S 0), .int (hs_G S 1), .ref (ad 0 4), .ref (ad 0 8)] := hP.m 0 0 (by decide)
  refine lv_iload_n hx hb dX5_many_0 rfl (lv_at hl 1 rfl) ?_
  refine lv_tableIn (tgt := 53) hx hb dX5_many_1 (by decide) (by decide) rfl (by decide) ?_
  refine lv_aload_n hx hb dX5_many_53 rfl (lv_at hl 0 rfl) ?_
  refine hw_get hx hb hts hown hk hI fd_X5_103 e0_0hP rfl dX5_many_54 ?_
  exact hret hI (⟨by unfold st_many; exact if_neg (fun q => q (by decide)), rfl⟩) (Nat.le_of_ble_eq_true rfl) (Nat.le_of_ble_eq_true rfl) dX5_many_57

set_option maxHeartbeats 4000000 in
set_option maxRecDepth 100000 in
theorem m_X5_many_2 (l : Launch) (hst : l.stackTraces = false) (Z : hw_Z) (M : hw_M) (ad : hp_ad) (S : hs_S) (T : hp_T) (b1 : Nat → Prop) (hP : hp_ok Z b1 M ad S T) (hB : hs_b S) : vx_Met l yX5_many (hw_m yX5_many cX5_many 2 (some .int)) ({ frames := 8, cells := 6, slots := 36, locals := 170 } : Room) (va_Pc [.ref (ad 0 0), .int (nI 2)] (hw_P Z M)) (hw_Qi Z (hq_N M S (st_many S (nI 2)))) (hw_X Z (hq_X ["java/lang/IllegalArgumentException"] M S (st_many S (nI 2)))) 6 36 (hw_A Z) := by
  refine hw_xofi hst (by decide +kernel) rfl (Nat.le_of_ble_eq_true rfl) ?_
  intro p e s m below meth c ls Q hx hb hml hown hts hk hnm hI hl hret hxo hthr hthrW
  have hnp := hB.np
  have hnw := hB.nw
  have e0_0hP : M (ad 0 0) = hw_ob 6 [.ref (ad 0 1), .ref (ad 0 2), .ref (ad 0 3), .int (nI (hs_np S)), .int (nI (hs_nw S)), .int (hs_G S 0), .int (hs_G S 1), .ref (ad 0 4), .ref (ad 0 8)] := hP.m 0 0 (by decide)
  refine lv_iload_n hx hb dX5_many_0 rfl (lv_at hl 1 rfl) ?_
  refine lv_tableIn (tgt := 58) hx hb dX5_many_1 (by decide) (by decide) rfl (by decide) ?_
  refine lv_aload_n hx hb dX5_many_58 rfl (lv_at hl 0 rfl) ?_
  refine hw_ci hI (hw_rV hx hb hml hown hts hk hI (m_X5_proofsOfAll l Z M ad S T b1 hP hB) cv_X5_318 e0_0hP rfl rfl ⟨rfl, rfl⟩ ⟨(Nat.le_of_ble_eq_true rfl), (Nat.le_of_ble_eq_true rfl)⟩ rfl hl.1 rfl (Nat.le_of_ble_eq_true rfl) ⟨(Nat.le_of_ble_eq_true rfl), (Nat.le_of_ble_eq_true rfl)⟩ dX5_many_59) (fun r59 M59 H locs hR hI => ?_)
  obtain ⟨rfl, rfl⟩ := hR
  exact hret hI (⟨by unfold st_many; exact if_neg (fun q => q (by decide)), rfl⟩) (Nat.le_of_ble_eq_true rfl) (Nat.le_of_ble_eq_true rfl) dX5_many_62

set_option maxHeartbeats 4000000 in
set_option maxRecDepth 100000 in
theorem m_X5_many_3 (l : Launch) (hst : l.stackTraces = false) (Z : hw_Z) (M : hw_M) (ad : hp_ad) (S : hs_S) (T : hp_T) (b1 : Nat → Prop) (hP : hp_ok Z b1 M ad S T) (hB : hs_b S) : vx_Met l yX5_many (hw_m yX5_many cX5_many 2 (some .int)) ({ frames := 8, cells := 6, slots := 36, locals := 170 } : Room) (va_Pc [.ref (ad 0 0), .int (nI 3)] (hw_P Z M)) (hw_Qi Z (hq_N M S (st_many S (nI 3)))) (hw_X Z (hq_X ["java/lang/IllegalArgumentException"] M S (st_many S (nI 3)))) 6 36 (hw_A Z) := by
  refine hw_xofi hst (by decide +kernel) rfl (Nat.le_of_ble_eq_true rfl) ?_
  intro p e s m below meth c ls Q hx hb hml hown hts hk hnm hI hl hret hxo hthr hthrW
  have hnp := hB.np
  have hnw := hB.nw
  have e0_0hP : M (ad 0 0) = hw_ob 6 [.ref (ad 0 1), .ref (ad 0 2), .ref (ad 0 3), .int (nI (hs_np S)), .int (nI (hs_nw S)), .int (hs_G S 0), .int (hs_G S 1), .ref (ad 0 4), .ref (ad 0 8)] := hP.m 0 0 (by decide)
  refine lv_iload_n hx hb dX5_many_0 rfl (lv_at hl 1 rfl) ?_
  refine lv_tableIn (tgt := 63) hx hb dX5_many_1 (by decide) (by decide) rfl (by decide) ?_
  refine lv_aload_n hx hb dX5_many_63 rfl (lv_at hl 0 rfl) ?_
  refine lv_iconst (v := nI 5) hx hb dX5_many_64 (by decide) ?_
  refine hw_ci hI (hw_rV hx hb hml hown hts hk hI (m_X5_piecesThatAre l Z M ad S T b1 (nI 5) hP hB) cv_X5_321 e0_0hP rfl rfl ⟨rfl, rfl⟩ ⟨(Nat.le_of_ble_eq_true rfl), (Nat.le_of_ble_eq_true rfl)⟩ rfl hl.1 rfl (Nat.le_of_ble_eq_true rfl) ⟨(Nat.le_of_ble_eq_true rfl), (Nat.le_of_ble_eq_true rfl)⟩ dX5_many_65) (fun r65 M65 H locs hR hI => ?_)
  obtain ⟨rfl, rfl⟩ := hR
  exact hret hI (⟨by unfold st_many; exact if_neg (fun q => q (by decide)), rfl⟩) (Nat.le_of_ble_eq_true rfl) (Nat.le_of_ble_eq_true rfl) dX5_many_68

set_option maxHeartbeats 4000000 in
set_option maxRecDepth 100000 in
theorem m_X5_many_4 (l : Launch) (hst : l.stackTraces = false) (Z : hw_Z) (M : hw_M) (ad : hp_ad) (S : hs_S) (T : hp_T) (b1 : Nat → Prop) (hP : hp_ok Z b1 M ad S T) (hB : hs_b S) : vx_Met l yX5_many (hw_m yX5_many cX5_many 2 (some .int)) ({ frames := 8, cells := 6, slots := 36, locals := 170 } : Room) (va_Pc [.ref (ad 0 0), .int (nI 4)] (hw_P Z M)) (hw_Qi Z (hq_N M S (st_many S (nI 4)))) (hw_X Z (hq_X ["java/lang/IllegalArgumentException"] M S (st_many S (nI 4)))) 6 36 (hw_A Z) := by
  refine hw_xofi hst (by decide +kernel) rfl (Nat.le_of_ble_eq_true rfl) ?_
  intro p e s m below meth c ls Q hx hb hml hown hts hk hnm hI hl hret hxo hthr hthrW
  have hnp := hB.np
  have hnw := hB.nw
  have e0_0hP : M (ad 0 0) = hw_ob 6 [.ref (ad 0 1), .ref (ad 0 2), .ref (ad 0 3), .int (nI (hs_np S)), .int (nI (hs_nw S)), .int (hs_G S 0), .int (hs_G S 1), .ref (ad 0 4), .ref (ad 0 8)] := hP.m 0 0 (by decide)
  refine lv_iload_n hx hb dX5_many_0 rfl (lv_at hl 1 rfl) ?_
  refine lv_tableIn (tgt := 69) hx hb dX5_many_1 (by decide) (by decide) rfl (by decide) ?_
  refine lv_aload_n hx hb dX5_many_69 rfl (lv_at hl 0 rfl) ?_
  refine lv_bipush (v := nI 6) hx hb dX5_many_70 (by decide) ?_
  refine hw_ci hI (hw_rV hx hb hml hown hts hk hI (m_X5_piecesThatAre l Z M ad S T b1 (nI 6) hP hB) cv_X5_321 e0_0hP rfl rfl ⟨rfl, rfl⟩ ⟨(Nat.le_of_ble_eq_true rfl), (Nat.le_of_ble_eq_true rfl)⟩ rfl hl.1 rfl (Nat.le_of_ble_eq_true rfl) ⟨(Nat.le_of_ble_eq_true rfl), (Nat.le_of_ble_eq_true rfl)⟩ dX5_many_72) (fun r72 M72 H locs hR hI => ?_)
  obtain ⟨rfl, rfl⟩ := hR
  exact hret hI (⟨by unfold st_many; exact if_neg (fun q => q (by decide)), rfl⟩) (Nat.le_of_ble_eq_true rfl) (Nat.le_of_ble_eq_true rfl) dX5_many_75

set_option maxHeartbeats 4000000 in
set_option maxRecDepth 100000 in
theorem m_X5_many_5 (l : Launch) (hst : l.stackTraces = false) (Z : hw_Z) (M : hw_M) (ad : hp_ad) (S : hs_S) (T : hp_T) (b1 : Nat → Prop) (hP : hp_ok Z b1 M ad S T) (hB : hs_b S) : vx_Met l yX5_many (hw_m yX5_many cX5_many 2 (some .int)) ({ frames := 8, cells := 6, slots := 36, locals := 170 } : Room) (va_Pc [.ref (ad 0 0), .int (nI 5)] (hw_P Z M)) (hw_Qi Z (hq_N M S (st_many S (nI 5)))) (hw_X Z (hq_X ["java/lang/IllegalArgumentException"] M S (st_many S (nI 5)))) 6 36 (hw_A Z) := by
  refine hw_xofi hst (by decide +kernel) rfl (Nat.le_of_ble_eq_true rfl) ?_
  intro p e s m below meth c ls Q hx hb hml hown hts hk hnm hI hl hret hxo hthr hthrW
  have hnp := hB.np
  have hnw := hB.nw
  have e0_0hP : M (ad 0 0) = hw_ob 6 [.ref (ad 0 1), .ref (ad 0 2), .ref (ad 0 3), .int (nI (hs_np S)), .int (nI (hs_nw S)), .int (hs_G S 0), .int (hs_G S 1), .ref (ad 0 4), .ref (ad 0 8)] := hP.m 0 0 (by decide)
  refine lv_iload_n hx hb dX5_many_0 rfl (lv_at hl 1 rfl) ?_
  refine lv_tableIn (tgt := 76) hx hb dX5_many_1 (by decide) (by decide) rfl (by decide) ?_
  refine lv_aload_n hx hb dX5_many_76 rfl (lv_at hl 0 rfl) ?_
  refine hw_ci hI (hw_rV hx hb hml hown hts hk hI (m_X5_gramsOfAll l Z M ad S T b1 hP hB) cv_X5_324 e0_0hP rfl rfl ⟨rfl, rfl⟩ ⟨(Nat.le_of_ble_eq_true rfl), (Nat.le_of_ble_eq_true rfl)⟩ rfl hl.1 rfl (Nat.le_of_ble_eq_true rfl) ⟨(Nat.le_of_ble_eq_true rfl), (Nat.le_of_ble_eq_true rfl)⟩ dX5_many_77) (fun r77 M77 H locs hR hI => ?_)
  obtain ⟨rfl, rfl⟩ := hR
  exact hret hI (⟨by unfold st_many; exact if_neg (fun q => q (by decide)), rfl⟩) (Nat.le_of_ble_eq_true rfl) (Nat.le_of_ble_eq_true rfl) dX5_many_80

set_option maxHeartbeats 4000000 in
set_option maxRecDepth 100000 in
theorem m_X5_many_6 (l : Launch) (hst : l.stackTraces = false) (Z : hw_Z) (M : hw_M) (ad : hp_ad) (S : hs_S) (T : hp_T) (b1 : Nat → Prop) (hP : hp_ok Z b1 M ad S T) (hB : hs_b S) : vx_Met l yX5_many (hw_m yX5_many cX5_many 2 (some .int)) ({ frames := 8, cells := 6, slots := 36, locals := 170 } : Room) (va_Pc [.ref (ad 0 0), .int (nI 6)] (hw_P Z M)) (hw_Qi Z (hq_N M S (st_many S (nI 6)))) (hw_X Z (hq_X ["java/lang/IllegalArgumentException"] M S (st_many S (nI 6)))) 6 36 (hw_A Z) := by
  refine hw_xofi hst (by decide +kernel) rfl (Nat.le_of_ble_eq_true rfl) ?_
  intro p e s m below meth c ls Q hx hb hml hown hts hk hnm hI hl hret hxo hthr hthrW
  have hnp := hB.np
  have hnw := hB.nw
  have e0_0hP : M (ad 0 0) = hw_ob 6 [.ref (ad 0 1), .ref (ad 0 2), .ref (ad 0 3), .int (nI (hs_np S)), .int (nI (hs_nw S)), .int (hs_G S 0), .int (hs_G S 1), .ref (ad 0 4), .ref (ad 0 8)] := hP.m 0 0 (by decide)
  refine lv_iload_n hx hb dX5_many_0 rfl (lv_at hl 1 rfl) ?_
  refine lv_tableIn (tgt := 81) hx hb dX5_many_1 (by decide) (by decide) rfl (by decide) ?_
  refine lv_aload_n hx hb dX5_many_81 rfl (lv_at hl 0 rfl) ?_
  refine hw_get hx hb hts hown hk hI fd_X5_224 e0_0hP rfl dX5_many_82 ?_
  exact hret hI (⟨by unfold st_many; exact if_neg (fun q => q (by decide)), rfl⟩) (Nat.le_of_ble_eq_true rfl) (Nat.le_of_ble_eq_true rfl) dX5_many_85

set_option maxHeartbeats 4000000 in
set_option maxRecDepth 100000 in
theorem m_X5_many_7 (l : Launch) (hst : l.stackTraces = false) (Z : hw_Z) (M : hw_M) (ad : hp_ad) (S : hs_S) (T : hp_T) (b1 : Nat → Prop) (hP : hp_ok Z b1 M ad S T) (hB : hs_b S) : vx_Met l yX5_many (hw_m yX5_many cX5_many 2 (some .int)) ({ frames := 8, cells := 6, slots := 36, locals := 170 } : Room) (va_Pc [.ref (ad 0 0), .int (nI 7)] (hw_P Z M)) (hw_Qi Z (hq_N M S (st_many S (nI 7)))) (hw_X Z (hq_X ["java/lang/IllegalArgumentException"] M S (st_many S (nI 7)))) 6 36 (hw_A Z) := by
  refine hw_xofi hst (by decide +kernel) rfl (Nat.le_of_ble_eq_true rfl) ?_
  intro p e s m below meth c ls Q hx hb hml hown hts hk hnm hI hl hret hxo hthr hthrW
  have hnp := hB.np
  have hnw := hB.nw
  have e0_0hP : M (ad 0 0) = hw_ob 6 [.ref (ad 0 1), .ref (ad 0 2), .ref (ad 0 3), .int (nI (hs_np S)), .int (nI (hs_nw S)), .int (hs_G S 0), .int (hs_G S 1), .ref (ad 0 4), .ref (ad 0 8)] := hP.m 0 0 (by decide)
  refine lv_iload_n hx hb dX5_many_0 rfl (lv_at hl 1 rfl) ?_
  refine lv_tableIn (tgt := 86) hx hb dX5_many_1 (by decide) (by decide) rfl (by decide) ?_
  refine lv_aload_n hx hb dX5_many_86 rfl (lv_at hl 0 rfl) ?_
  refine hw_get hx hb hts hown hk hI fd_X5_217 e0_0hP rfl dX5_many_87 ?_
  exact hret hI (⟨by unfold st_many; exact if_neg (fun q => q (by decide)), rfl⟩) (Nat.le_of_ble_eq_true rfl) (Nat.le_of_ble_eq_true rfl) dX5_many_90

set_option maxHeartbeats 4000000 in
set_option maxRecDepth 100000 in
theorem m_X5_many_k0 (l : Launch) (Z : hw_Z) (M : hw_M) (ad : hp_ad) (S : hs_S) (T : hp_T) (b1 : Nat → Prop) (hP : hp_ok Z b1 M ad S T) (hB : hs_b S) : Met l yX5_many (hw_m yX5_many cX5_many 2 (some .int)) ({ frames := 8, cells := 0, slots := 0, locals := 170 } : Room) (va_Pc [.ref (ad 0 0), .int (nI 0)] (hw_P Z M)) (hw_Qi Z (fun r M' => hs_many S 0 = r ∧ M = M')) 0 0 (hw_A Z) := by
  refine hw_ofi (by decide +kernel) rfl (Nat.le_of_ble_eq_true rfl) ?_
  intro p e s m below meth c ls Q hx hb hml hown hts hk hnm hI hl hret
  have hnp := hB.np
  have hnw := hB.nw
  have e0_0hP : M (ad 0 0) = hw_ob 6 [.ref (ad 0 1), .ref (ad 0 2), .ref (ad 0 3), .int (nI (hs_np S)), .int (nI (hs_nw S)), .int (hs_G S 0), .int (hs_G S 1), .ref (ad 0 4), .ref (ad 0 8)] := hP.m 0 0 (by decide)
  refine lv_iload_n hx hb dX5_many_0 rfl (lv_at hl 1 rfl) ?_
  refine lv_tableIn (tgt := 48) hx hb dX5_many_1 (by decide) (by decide) rfl (by decide) ?_
  refine lv_aload_n hx hb dX5_many_48 rfl (lv_at hl 0 rfl) ?_
  refine hw_get hx hb hts hown hk hI fd_X5_46 e0_0hP rfl dX5_many_49 ?_
  exact hret hI (⟨rfl, rfl⟩) (Nat.le_of_ble_eq_true rfl) (Nat.le_of_ble_eq_true rfl) dX5_many_52

set_option maxHeartbeats 4000000 in
set_option maxRecDepth 100000 in
theorem m_X5_many_k1 (l : Launch) (Z : hw_Z) (M : hw_M) (ad : hp_ad) (S : hs_S) (T : hp_T) (b1 : Nat → Prop) (hP : hp_ok Z b1 M ad S T) (hB : hs_b S) : Met l yX5_many (hw_m yX5_many cX5_many 2 (some .int)) ({ frames := 8, cells := 0, slots := 0, locals := 170 } : Room) (va_Pc [.ref (ad 0 0), .int (nI 1)] (hw_P Z M)) (hw_Qi Z (fun r M' => hs_many S 1 = r ∧ M = M')) 0 0 (hw_A Z) := by
  refine hw_ofi (by decide +kernel) rfl (Nat.le_of_ble_eq_true rfl) ?_
  intro p e s m below meth c ls Q hx hb hml hown hts hk hnm hI hl hret
  have hnp := hB.np
  have hnw := hB.nw
  have e0_0hP : M (ad 0 0) = hw_ob 6 [.ref (ad 0 1), .ref (ad 0 2), .ref (ad 0 3), .int (nI (hs_np S)), .int (nI (hs_nw S)), .int (hs_G S 0), .int (hs_G S 1), .ref (ad 0 4), .ref (ad 0 8)] := hP.m 0 0 (by decide)
  refine lv_iload_n hx hb dX5_many_0 rfl (lv_at hl 1 rfl) ?_
  refine lv_tableIn (tgt := 53) hx hb dX5_many_1 (by decide) (by decide) rfl (by decide) ?_
  refine lv_aload_n hx hb dX5_many_53 rfl (lv_at hl 0 rfl) ?_
  refine hw_get hx hb hts hown hk hI fd_X5_103 e0_0hP rfl dX5_many_54 ?_
  exact hret hI (⟨rfl, rfl⟩) (Nat.le_of_ble_eq_true rfl) (Nat.le_of_ble_eq_true rfl) dX5_many_57

set_option maxHeartbeats 4000000 in
set_option maxRecDepth 100000 in
theorem m_X5_many_k2 (l : Launch) (Z : hw_Z) (M : hw_M) (ad : hp_ad) (S : hs_S) (T : hp_T) (b1 : Nat → Prop) (hP : hp_ok Z b1 M ad S T) (hB : hs_b S) : Met l yX5_many (hw_m yX5_many cX5_many 2 (some .int)) ({ frames := 8, cells := 0, slots := 0, locals := 170 } : Room) (va_Pc [.ref (ad 0 0), .int (nI 2)] (hw_P Z M)) (hw_Qi Z (fun r M' => hs_many S 2 = r ∧ M = M')) 0 0 (hw_A Z) := by
  refine hw_ofi (by decide +kernel) rfl (Nat.le_of_ble_eq_true rfl) ?_
  intro p e s m below meth c ls Q hx hb hml hown hts hk hnm hI hl hret
  have hnp := hB.np
  have hnw := hB.nw
  have e0_0hP : M (ad 0 0) = hw_ob 6 [.ref (ad 0 1), .ref (ad 0 2), .ref (ad 0 3), .int (nI (hs_np S)), .int (nI (hs_nw S)), .int (hs_G S 0), .int (hs_G S 1), .ref (ad 0 4), .ref (ad 0 8)] := hP.m 0 0 (by decide)
  refine lv_iload_n hx hb dX5_many_0 rfl (lv_at hl 1 rfl) ?_
  refine lv_tableIn (tgt := 58) hx hb dX5_many_1 (by decide) (by decide) rfl (by decide) ?_
  refine lv_aload_n hx hb dX5_many_58 rfl (lv_at hl 0 rfl) ?_
  refine hw_ci hI (hw_rV hx hb hml hown hts hk hI (m_X5_proofsOfAll l Z M ad S T b1 hP hB) cv_X5_318 e0_0hP rfl rfl ⟨rfl, rfl⟩ ⟨(Nat.le_of_ble_eq_true rfl), (Nat.le_of_ble_eq_true rfl)⟩ rfl hl.1 rfl (Nat.le_of_ble_eq_true rfl) ⟨(Nat.le_of_ble_eq_true rfl), (Nat.le_of_ble_eq_true rfl)⟩ dX5_many_59) (fun r59 M59 H locs hR hI => ?_)
  obtain ⟨rfl, rfl⟩ := hR
  exact hret hI (⟨rfl, rfl⟩) (Nat.le_of_ble_eq_true rfl) (Nat.le_of_ble_eq_true rfl) dX5_many_62

set_option maxHeartbeats 4000000 in
set_option maxRecDepth 100000 in
theorem m_X5_many_k3 (l : Launch) (Z : hw_Z) (M : hw_M) (ad : hp_ad) (S : hs_S) (T : hp_T) (b1 : Nat → Prop) (hP : hp_ok Z b1 M ad S T) (hB : hs_b S) : Met l yX5_many (hw_m yX5_many cX5_many 2 (some .int)) ({ frames := 8, cells := 0, slots := 0, locals := 170 } : Room) (va_Pc [.ref (ad 0 0), .int (nI 3)] (hw_P Z M)) (hw_Qi Z (fun r M' => hs_many S 3 = r ∧ M = M')) 0 0 (hw_A Z) := by
  refine hw_ofi (by decide +kernel) rfl (Nat.le_of_ble_eq_true rfl) ?_
  intro p e s m below meth c ls Q hx hb hml hown hts hk hnm hI hl hret
  have hnp := hB.np
  have hnw := hB.nw
  have e0_0hP : M (ad 0 0) = hw_ob 6 [.ref (ad 0 1), .ref (ad 0 2), .ref (ad 0 3), .int (nI (hs_np S)), .int (nI (hs_nw S)), .int (hs_G S 0), .int (hs_G S 1), .ref (ad 0 4), .ref (ad 0 8)] := hP.m 0 0 (by decide)
  refine lv_iload_n hx hb dX5_many_0 rfl (lv_at hl 1 rfl) ?_
  refine lv_tableIn (tgt := 63) hx hb dX5_many_1 (by decide) (by decide) rfl (by decide) ?_
  refine lv_aload_n hx hb dX5_many_63 rfl (lv_at hl 0 rfl) ?_
  refine lv_iconst (v := nI 5) hx hb dX5_many_64 (by decide) ?_
  refine hw_ci hI (hw_rV hx hb hml hown hts hk hI (m_X5_piecesThatAre l Z M ad S T b1 (nI 5) hP hB) cv_X5_321 e0_0hP rfl rfl ⟨rfl, rfl⟩ ⟨(Nat.le_of_ble_eq_true rfl), (Nat.le_of_ble_eq_true rfl)⟩ rfl hl.1 rfl (Nat.le_of_ble_eq_true rfl) ⟨(Nat.le_of_ble_eq_true rfl), (Nat.le_of_ble_eq_true rfl)⟩ dX5_many_65) (fun r65 M65 H locs hR hI => ?_)
  obtain ⟨rfl, rfl⟩ := hR
  exact hret hI (⟨rfl, rfl⟩) (Nat.le_of_ble_eq_true rfl) (Nat.le_of_ble_eq_true rfl) dX5_many_68

set_option maxHeartbeats 4000000 in
set_option maxRecDepth 100000 in
theorem m_X5_many_k4 (l : Launch) (Z : hw_Z) (M : hw_M) (ad : hp_ad) (S : hs_S) (T : hp_T) (b1 : Nat → Prop) (hP : hp_ok Z b1 M ad S T) (hB : hs_b S) : Met l yX5_many (hw_m yX5_many cX5_many 2 (some .int)) ({ frames := 8, cells := 0, slots := 0, locals := 170 } : Room) (va_Pc [.ref (ad 0 0), .int (nI 4)] (hw_P Z M)) (hw_Qi Z (fun r M' => hs_many S 4 = r ∧ M = M')) 0 0 (hw_A Z) := by
  refine hw_ofi (by decide +kernel) rfl (Nat.le_of_ble_eq_true rfl) ?_
  intro p e s m below meth c ls Q hx hb hml hown hts hk hnm hI hl hret
  have hnp := hB.np
  have hnw := hB.nw
  have e0_0hP : M (ad 0 0) = hw_ob 6 [.ref (ad 0 1), .ref (ad 0 2), .ref (ad 0 3), .int (nI (hs_np S)), .int (nI (hs_nw S)), .int (hs_G S 0), .int (hs_G S 1), .ref (ad 0 4), .ref (ad 0 8)] := hP.m 0 0 (by decide)
  refine lv_iload_n hx hb dX5_many_0 rfl (lv_at hl 1 rfl) ?_
  refine lv_tableIn (tgt := 69) hx hb dX5_many_1 (by decide) (by decide) rfl (by decide) ?_
  refine lv_aload_n hx hb dX5_many_69 rfl (lv_at hl 0 rfl) ?_
  refine lv_bipush (v := nI 6) hx hb dX5_many_70 (by decide) ?_
  refine hw_ci hI (hw_rV hx hb hml hown hts hk hI (m_X5_piecesThatAre l Z M ad S T b1 (nI 6) hP hB) cv_X5_321 e0_0hP rfl rfl ⟨rfl, rfl⟩ ⟨(Nat.le_of_ble_eq_true rfl), (Nat.le_of_ble_eq_true rfl)⟩ rfl hl.1 rfl (Nat.le_of_ble_eq_true rfl) ⟨(Nat.le_of_ble_eq_true rfl), (Nat.le_of_ble_eq_true rfl)⟩ dX5_many_72) (fun r72 M72 H locs hR hI => ?_)
  obtain ⟨rfl, rfl⟩ := hR
  exact hret hI (⟨rfl, rfl⟩) (Nat.le_of_ble_eq_true rfl) (Nat.le_of_ble_eq_true rfl) dX5_many_75

set_option maxHeartbeats 4000000 in
set_option maxRecDepth 100000 in
theorem m_X5_many_k5 (l : Launch) (Z : hw_Z) (M : hw_M) (ad : hp_ad) (S : hs_S) (T : hp_T) (b1 : Nat → Prop) (hP : hp_ok Z b1 M ad S T) (hB : hs_b S) : Met l yX5_many (hw_m yX5_many cX5_many 2 (some .int)) ({ frames := 8, cells := 0, slots := 0, locals := 170 } : Room) (va_Pc [.ref (ad 0 0), .int (nI 5)] (hw_P Z M)) (hw_Qi Z (fun r M' => hs_many S 5 = r ∧ M = M')) 0 0 (hw_A Z) := by
  refine hw_ofi (by decide +kernel) rfl (Nat.le_of_ble_eq_true rfl) ?_
  intro p e s m below meth c ls Q hx hb hml hown hts hk hnm hI hl hret
  have hnp := hB.np
  have hnw := hB.nw
  have e0_0hP : M (ad 0 0) = hw_ob 6 [.ref (ad 0 1), .ref (ad 0 2), .ref (ad 0 3), .int (nI (hs_np S)), .int (nI (hs_nw S)), .int (hs_G S 0), .int (hs_G S 1), .ref (ad 0 4), .ref (ad 0 8)] := hP.m 0 0 (by decide)
  refine lv_iload_n hx hb dX5_many_0 rfl (lv_at hl 1 rfl) ?_
  refine lv_tableIn (tgt := 76) hx hb dX5_many_1 (by decide) (by decide) rfl (by decide) ?_
  refine lv_aload_n hx hb dX5_many_76 rfl (lv_at hl 0 rfl) ?_
  refine hw_ci hI (hw_rV hx hb hml hown hts hk hI (m_X5_gramsOfAll l Z M ad S T b1 hP hB) cv_X5_324 e0_0hP rfl rfl ⟨rfl, rfl⟩ ⟨(Nat.le_of_ble_eq_true rfl), (Nat.le_of_ble_eq_true rfl)⟩ rfl hl.1 rfl (Nat.le_of_ble_eq_true rfl) ⟨(Nat.le_of_ble_eq_true rfl), (Nat.le_of_ble_eq_true rfl)⟩ dX5_many_77) (fun r77 M77 H locs hR hI => ?_)
  obtain ⟨rfl, rfl⟩ := hR
  exact hret hI (⟨rfl, rfl⟩) (Nat.le_of_ble_eq_true rfl) (Nat.le_of_ble_eq_true rfl) dX5_many_80

set_option maxHeartbeats 4000000 in
set_option maxRecDepth 100000 in
theorem m_X5_many_k6 (l : Launch) (Z : hw_Z) (M : hw_M) (ad : hp_ad) (S : hs_S) (T : hp_T) (b1 : Nat → Prop) (hP : hp_ok Z b1 M ad S T) (hB : hs_b S) : Met l yX5_many (hw_m yX5_many cX5_many 2 (some .int)) ({ frames := 8, cells := 0, slots := 0, locals := 170 } : Room) (va_Pc [.ref (ad 0 0), .int (nI 6)] (hw_P Z M)) (hw_Qi Z (fun r M' => hs_many S 6 = r ∧ M = M')) 0 0 (hw_A Z) := by
  refine hw_ofi (by decide +kernel) rfl (Nat.le_of_ble_eq_true rfl) ?_
  intro p e s m below meth c ls Q hx hb hml hown hts hk hnm hI hl hret
  have hnp := hB.np
  have hnw := hB.nw
  have e0_0hP : M (ad 0 0) = hw_ob 6 [.ref (ad 0 1), .ref (ad 0 2), .ref (ad 0 3), .int (nI (hs_np S)), .int (nI (hs_nw S)), .int (hs_G S 0), .int (hs_G S 1), .ref (ad 0 4), .ref (ad 0 8)] := hP.m 0 0 (by decide)
  refine lv_iload_n hx hb dX5_many_0 rfl (lv_at hl 1 rfl) ?_
  refine lv_tableIn (tgt := 81) hx hb dX5_many_1 (by decide) (by decide) rfl (by decide) ?_
  refine lv_aload_n hx hb dX5_many_81 rfl (lv_at hl 0 rfl) ?_
  refine hw_get hx hb hts hown hk hI fd_X5_224 e0_0hP rfl dX5_many_82 ?_
  exact hret hI (⟨rfl, rfl⟩) (Nat.le_of_ble_eq_true rfl) (Nat.le_of_ble_eq_true rfl) dX5_many_85

set_option maxHeartbeats 4000000 in
set_option maxRecDepth 100000 in
theorem m_X5_many_k7 (l : Launch) (Z : hw_Z) (M : hw_M) (ad : hp_ad) (S : hs_S) (T : hp_T) (b1 : Nat → Prop) (hP : hp_ok Z b1 M ad S T) (hB : hs_b S) : Met l yX5_many (hw_m yX5_many cX5_many 2 (some .int)) ({ frames := 8, cells := 0, slots := 0, locals := 170 } : Room) (va_Pc [.ref (ad 0 0), .int (nI 7)] (hw_P Z M)) (hw_Qi Z (fun r M' => hs_many S 7 = r ∧ M = M')) 0 0 (hw_A Z) := by
  refine hw_ofi (by decide +kernel) rfl (Nat.le_of_ble_eq_true rfl) ?_
  intro p e s m below meth c ls Q hx hb hml hown hts hk hnm hI hl hret
  have hnp := hB.np
  have hnw := hB.nw
  have e0_0hP : M (ad 0 0) = hw_ob 6 [.ref (ad 0 1), .ref (ad 0 2), .ref (ad 0 3), .int (nI (hs_np S)), .int (nI (hs_nw S)), .int (hs_G S 0), .int (hs_G S 1), .ref (ad 0 4), .ref (ad 0 8)] := hP.m 0 0 (by decide)
  refine lv_iload_n hx hb dX5_many_0 rfl (lv_at hl 1 rfl) ?_
  refine lv_tableIn (tgt := 86) hx hb dX5_many_1 (by decide) (by decide) rfl (by decide) ?_
  refine lv_aload_n hx hb dX5_many_86 rfl (lv_at hl 0 rfl) ?_
  refine hw_get hx hb hts hown hk hI fd_X5_217 e0_0hP rfl dX5_many_87 ?_
  exact hret hI (⟨rfl, rfl⟩) (Nat.le_of_ble_eq_true rfl) (Nat.le_of_ble_eq_true rfl) dX5_many_90

set_option maxHeartbeats 4000000 in
set_option maxRecDepth 100000 in
theorem m_X5_many_o (l : Launch) (hst : l.stackTraces = false) (Z : hw_Z) (M : hw_M) (ad : hp_ad) (S : hs_S) (T : hp_T) (b1 : Nat → Prop) (kw : Int32) (hP : hp_ok Z b1 M ad S T) (hB : hs_b S) (hw : ¬ hb_ok kw 8) : vx_Met l yX5_many (hw_m yX5_many cX5_many 2 (some .int)) ({ frames := 8, cells := 6, slots := 36, locals := 170 } : Room) (va_Pc [.ref (ad 0 0), .int kw] (hw_P Z M)) (hw_Qi Z (hq_N M S (st_many S kw))) (hw_X Z (hq_X ["java/lang/IllegalArgumentException"] M S (st_many S kw))) 6 36 (hw_A Z) := by
  refine hw_xofi hst (by decide +kernel) rfl (Nat.le_of_ble_eq_true rfl) ?_
  intro p e s m below meth c ls Q hx hb hml hown hts hk hnm hI hl hret hxo hthr hthrW
  have hnp := hB.np
  have hnw := hB.nw
  have e0_0hP : M (ad 0 0) = hw_ob 6 [.ref (ad 0 1), .ref (ad 0 2), .ref (ad 0 3), .int (nI (hs_np S)), .int (nI (hs_nw S)), .int (hs_G S 0), .int (hs_G S 1), .ref (ad 0 4), .ref (ad 0 8)] := hP.m 0 0 (by decide)
  refine lv_iload_n hx hb dX5_many_0 rfl (lv_at hl 1 rfl) ?_
  refine lv_tableOut (tgt := 91) hx hb dX5_many_1 (by have := hq_out (n := 8) (by decide) hw; omega) (by decide) ?_
  exact hthrW hI th_X5_96_327_100 hl.1 dX5_many_91 dX5_many_94 dX5_many_95 dX5_many_98 dX5_many_101 (Nat.le_of_ble_eq_true rfl) (Nat.le_of_ble_eq_true rfl) (Nat.le_of_ble_eq_true rfl) (Nat.le_of_ble_eq_true rfl) (hq_x (c := 1) (by unfold st_many; exact (hq_if hw ⟨rfl, rfl⟩)) ⟨by decide, rfl⟩ rfl) (Nat.le_of_ble_eq_true rfl) (Nat.le_of_ble_eq_true rfl)

theorem m_X5_many (l : Launch) (hst : l.stackTraces = false) (Z : hw_Z) (M : hw_M) (ad : hp_ad) (S : hs_S) (T : hp_T) (b1 : Nat → Prop) (kw : Int32) (hP : hp_ok Z b1 M ad S T) (hB : hs_b S) : vx_Met l yX5_many (hw_m yX5_many cX5_many 2 (some .int)) ({ frames := 8, cells := 6, slots := 36, locals := 170 } : Room) (va_Pc [.ref (ad 0 0), .int kw] (hw_P Z M)) (hw_Qi Z (hq_N M S (st_many S kw))) (hw_X Z (hq_X ["java/lang/IllegalArgumentException"] M S (st_many S kw))) 6 36 (hw_A Z) := by
  by_cases hw : hb_ok kw 8
  · obtain ⟨j, hj, rfl⟩ := hb_okj (by decide) hw
    rcases (show j = 0 ∨ j = 1 ∨ j = 2 ∨ j = 3 ∨ j = 4 ∨ j = 5 ∨ j = 6 ∨ j = 7 by omega) with rfl | rfl | rfl | rfl | rfl | rfl | rfl | rfl
    · exact m_X5_many_0 l hst Z M ad S T b1 hP hB
    · exact m_X5_many_1 l hst Z M ad S T b1 hP hB
    · exact m_X5_many_2 l hst Z M ad S T b1 hP hB
    · exact m_X5_many_3 l hst Z M ad S T b1 hP hB
    · exact m_X5_many_4 l hst Z M ad S T b1 hP hB
    · exact m_X5_many_5 l hst Z M ad S T b1 hP hB
    · exact m_X5_many_6 l hst Z M ad S T b1 hP hB
    · exact m_X5_many_7 l hst Z M ad S T b1 hP hB
  · exact m_X5_many_o l hst Z M ad S T b1 kw hP hB hw

theorem m_X5_many_k (l : Launch) (Z : hw_Z) (M : hw_M) (ad : hp_ad) (S : hs_S) (T : hp_T) (b1 : Nat → Prop) (w : Nat) (hP : hp_ok Z b1 M ad S T) (hB : hs_b S) (hw : w < 8) : Met l yX5_many (hw_m yX5_many cX5_many 2 (some .int)) ({ frames := 8, cells := 0, slots := 0, locals := 170 } : Room) (va_Pc [.ref (ad 0 0), .int (nI w)] (hw_P Z M)) (hw_Qi Z (fun r M' => hs_many S w = r ∧ M = M')) 0 0 (hw_A Z) := by
  rcases (show w = 0 ∨ w = 1 ∨ w = 2 ∨ w = 3 ∨ w = 4 ∨ w = 5 ∨ w = 6 ∨ w = 7 by omega) with rfl | rfl | rfl | rfl | rfl | rfl | rfl | rfl
  · exact m_X5_many_k0 l Z M ad S T b1 hP hB
  · exact m_X5_many_k1 l Z M ad S T b1 hP hB
  · exact m_X5_many_k2 l Z M ad S T b1 hP hB
  · exact m_X5_many_k3 l Z M ad S T b1 hP hB
  · exact m_X5_many_k4 l Z M ad S T b1 hP hB
  · exact m_X5_many_k5 l Z M ad S T b1 hP hB
  · exact m_X5_many_k6 l Z M ad S T b1 hP hB
  · exact m_X5_many_k7 l Z M ad S T b1 hP hB
