theorem cs_X5_329 : hw_CS RX5 329 yX5_energyOf cX5_energyOf 2 (some .double) 2 := ⟨cb_X5_energyOf _ _, (hw_win (w := .methodLink RX5 329 yX5_energyOf) (by decide +kernel) (by decide +kernel)), (hw_win (w := .static yX5_energyOf) (by decide +kernel) (by decide +kernel))⟩
theorem cb_X5_flawsAt (own : String) (index : Nat) : hw_CB own index yX5_flawsAt cX5_flawsAt 6 (some .int) 2 := ⟨⟨by decide +kernel, by decide +kernel, by decide +kernel⟩, (hw_win (w := .code yX5_flawsAt cX5_flawsAt 6 (some .int)) (by decide +kernel) (by decide +kernel)), (hw_win (w := .initialized yX5_flawsAt.cls) (by decide +kernel) (by decide +kernel))⟩
theorem cv_X5_333 : hw_CV RX5 333 yX5_flawsAt cX5_flawsAt 6 (some .int) 2 := ⟨cb_X5_flawsAt _ _, (hw_win (w := .methodLink RX5 333 yX5_flawsAt) (by decide +kernel) (by decide +kernel)), (hw_win (w := .instanceMethod yX5_flawsAt) (by decide +kernel) (by decide +kernel)), (hw_win (w := .selects yX5_flawsAt.cls yX5_flawsAt yX5_flawsAt) (by decide +kernel) (by decide +kernel))⟩
theorem cb_X5_measure (own : String) (index : Nat) : hw_CB own index yX5_measure cX5_measure 4 (some .double) 2 := ⟨⟨by decide +kernel, by decide +kernel, by decide +kernel⟩, (hw_win (w := .code yX5_measure cX5_measure 4 (some .double)) (by decide +kernel) (by decide +kernel)), (hw_win (w := .initialized yX5_measure.cls) (by decide +kernel) (by decide +kernel))⟩
theorem cv_X5_365 : hw_CV RX5 365 yX5_measure cX5_measure 4 (some .double) 2 := ⟨cb_X5_measure _ _, (hw_win (w := .methodLink RX5 365 yX5_measure) (by decide +kernel) (by decide +kernel)), (hw_win (w := .instanceMethod yX5_measure) (by decide +kernel) (by decide +kernel)), (hw_win (w := .selects yX5_measure.cls yX5_measure yX5_measure) (by decide +kernel) (by decide +kernel))⟩
theorem cb_X5_bestWay (own : String) (index : Nat) : hw_CB own index yX5_bestWay cX5_bestWay 9 (some .int) 1 := ⟨⟨by decide +kernel, by decide +kernel, by decide +kernel⟩, (hw_win (w := .code yX5_bestWay cX5_bestWay 9 (some .int)) (by decide +kernel) (by decide +kernel)), (hw_win (w := .initialized yX5_bestWay.cls) (by decide +kernel) (by decide +kernel))⟩
theorem cv_X5_370 : hw_CV RX5 370 yX5_bestWay cX5_bestWay 9 (some .int) 1 := ⟨cb_X5_bestWay _ _, (hw_win (w := .methodLink RX5 370 yX5_bestWay) (by decide +kernel) (by decide +kernel)), (hw_win (w := .instanceMethod yX5_bestWay) (by decide +kernel) (by decide +kernel)), (hw_win (w := .selects yX5_bestWay.cls yX5_bestWay yX5_bestWay) (by decide +kernel) (by decide +kernel))⟩
theorem cb_X5_bestSpeed (own : String) (index : Nat) : hw_CB own index yX5_bestSpeed cX5_bestSpeed 8 (some .int) 2 := ⟨⟨by decide +kernel, by decide +kernel, by decide +kernel⟩, (hw_win (w := .code yX5_bestSpeed cX5_bestSpeed 8 (some .int)) (by decide +kernel) (by decide +kernel)), (hw_win (w := .initialized yX5_bestSpeed.cls) (by decide +kernel) (by decide +kernel))⟩
theorem cv_X5_373 : hw_CV RX5 373 yX5_bestSpeed cX5_bestSpeed 8 (some .int) 2 := ⟨cb_X5_bestSpeed _ _, (hw_win (w := .methodLink RX5 373 yX5_bestSpeed) (by decide +kernel) (by decide +kernel)), (hw_win (w := .instanceMethod yX5_bestSpeed) (by decide +kernel) (by decide +kernel)), (hw_win (w := .selects yX5_bestSpeed.cls yX5_bestSpeed yX5_bestSpeed) (by decide +kernel) (by decide +kernel))⟩
theorem cb_X5_ofLayer (own : String) (index : Nat) : hw_CB own index yX5_ofLayer cX5_ofLayer 5 (some .long) 3 := ⟨⟨by decide +kernel, by decide +kernel, by decide +kernel⟩, (hw_win (w := .code yX5_ofLayer cX5_ofLayer 5 (some .long)) (by decide +kernel) (by decide +kernel)), (hw_win (w := .initialized yX5_ofLayer.cls) (by decide +kernel) (by decide +kernel))⟩
theorem cv_X5_376 : hw_CV RX5 376 yX5_ofLayer cX5_ofLayer 5 (some .long) 3 := ⟨cb_X5_ofLayer _ _, (hw_win (w := .methodLink RX5 376 yX5_ofLayer) (by decide +kernel) (by decide +kernel)), (hw_win (w := .instanceMethod yX5_ofLayer) (by decide +kernel) (by decide +kernel)), (hw_win (w := .selects yX5_ofLayer.cls yX5_ofLayer yX5_ofLayer) (by decide +kernel) (by decide +kernel))⟩
theorem cb_X5_ofPiece (own : String) (index : Nat) : hw_CB own index yX5_ofPiece cX5_ofPiece 4 (some .int) 2 := ⟨⟨by decide +kernel, by decide +kernel, by decide +kernel⟩, (hw_win (w := .code yX5_ofPiece cX5_ofPiece 4 (some .int)) (by decide +kernel) (by decide +kernel)), (hw_win (w := .initialized yX5_ofPiece.cls) (by decide +kernel) (by decide +kernel))⟩
theorem cv_X5_362 : hw_CV RX5 362 yX5_ofPiece cX5_ofPiece 4 (some .int) 2 := ⟨cb_X5_ofPiece _ _, (hw_win (w := .methodLink RX5 362 yX5_ofPiece) (by decide +kernel) (by decide +kernel)), (hw_win (w := .instanceMethod yX5_ofPiece) (by decide +kernel) (by decide +kernel)), (hw_win (w := .selects yX5_ofPiece.cls yX5_ofPiece yX5_ofPiece) (by decide +kernel) (by decide +kernel))⟩
theorem cb_X5_ofMachine (own : String) (index : Nat) : hw_CB own index yX5_ofMachine cX5_ofMachine 4 (some .int) 2 := ⟨⟨by decide +kernel, by decide +kernel, by decide +kernel⟩, (hw_win (w := .code yX5_ofMachine cX5_ofMachine 4 (some .int)) (by decide +kernel) (by decide +kernel)), (hw_win (w := .initialized yX5_ofMachine.cls) (by decide +kernel) (by decide +kernel))⟩
theorem cv_X5_359 : hw_CV RX5 359 yX5_ofMachine cX5_ofMachine 4 (some .int) 2 := ⟨cb_X5_ofMachine _ _, (hw_win (w := .methodLink RX5 359 yX5_ofMachine) (by decide +kernel) (by decide +kernel)), (hw_win (w := .instanceMethod yX5_ofMachine) (by decide +kernel) (by decide +kernel)), (hw_win (w := .selects yX5_ofMachine.cls yX5_ofMachine yX5_ofMachine) (by decide +kernel) (by decide +kernel))⟩
theorem cb_X5_recall (own : String) (index : Nat) : hw_CB own index yX5_recall cX5_recall 5 (some .int) 1 := ⟨⟨by decide +kernel, by decide +kernel, by decide +kernel⟩, (hw_win (w := .code yX5_recall cX5_recall 5 (some .int)) (by decide +kernel) (by decide +kernel)), (hw_win (w := .initialized yX5_recall.cls) (by decide +kernel) (by decide +kernel))⟩
theorem cv_X5_356 : hw_CV RX5 356 yX5_recall cX5_recall 5 (some .int) 1 := ⟨cb_X5_recall _ _, (hw_win (w := .methodLink RX5 356 yX5_recall) (by decide +kernel) (by decide +kernel)), (hw_win (w := .instanceMethod yX5_recall) (by decide +kernel) (by decide +kernel)), (hw_win (w := .selects yX5_recall.cls yX5_recall yX5_recall) (by decide +kernel) (by decide +kernel))⟩
theorem cb_X5_ofPowder (own : String) (index : Nat) : hw_CB own index yX5_ofPowder cX5_ofPowder 4 (some .int) 2 := ⟨⟨by decide +kernel, by decide +kernel, by decide +kernel⟩, (hw_win (w := .code yX5_ofPowder cX5_ofPowder 4 (some .int)) (by decide +kernel) (by decide +kernel)), (hw_win (w := .initialized yX5_ofPowder.cls) (by decide +kernel) (by decide +kernel))⟩
theorem cv_X5_352 : hw_CV RX5 352 yX5_ofPowder cX5_ofPowder 4 (some .int) 2 := ⟨cb_X5_ofPowder _ _, (hw_win (w := .methodLink RX5 352 yX5_ofPowder) (by decide +kernel) (by decide +kernel)), (hw_win (w := .instanceMethod yX5_ofPowder) (by decide +kernel) (by decide +kernel)), (hw_win (w := .selects yX5_ofPowder.cls yX5_ofPowder yX5_ofPowder) (by decide +kernel) (by decide +kernel))⟩
theorem cb_X5_digestPiece (own : String) (index : Nat) : hw_CB own index yX5_digestPiece cX5_digestPiece 8 (some .long) 2 := ⟨⟨by decide +kernel, by decide +kernel, by decide +kernel⟩, (hw_win (w := .code yX5_digestPiece cX5_digestPiece 8 (some .long)) (by decide +kernel) (by decide +kernel)), (hw_win (w := .initialized yX5_digestPiece.cls) (by decide +kernel) (by decide +kernel))⟩
theorem cv_X5_348 : hw_CV RX5 348 yX5_digestPiece cX5_digestPiece 8 (some .long) 2 := ⟨cb_X5_digestPiece _ _, (hw_win (w := .methodLink RX5 348 yX5_digestPiece) (by decide +kernel) (by decide +kernel)), (hw_win (w := .instanceMethod yX5_digestPiece) (by decide +kernel) (by decide +kernel)), (hw_win (w := .selects yX5_digestPiece.cls yX5_digestPiece yX5_digestPiece) (by decide +kernel) (by decide +kernel))⟩
theorem cb_X5_many (own : String) (index : Nat) : hw_CB own index yX5_many cX5_many 2 (some .int) 1 := ⟨⟨by decide +kernel, by decide +kernel, by decide +kernel⟩, (hw_win (w := .code yX5_many cX5_many 2 (some .int)) (by decide +kernel) (by decide +kernel)), (hw_win (w := .initialized yX5_many.cls) (by decide +kernel) (by decide +kernel))⟩
theorem cv_X5_345 : hw_CV RX5 345 yX5_many cX5_many 2 (some .int) 1 := ⟨cb_X5_many _ _, (hw_win (w := .methodLink RX5 345 yX5_many) (by decide +kernel) (by decide +kernel)), (hw_win (w := .instanceMethod yX5_many) (by decide +kernel) (by decide +kernel)), (hw_win (w := .selects yX5_many.cls yX5_many yX5_many) (by decide +kernel) (by decide +kernel))⟩
set_option maxHeartbeats 4000000 in
set_option maxRecDepth 100000 in
theorem m_X5_bestSpeed (l : Launch) (hst : l.stackTraces = false) (Z : hw_Z) (M : hw_M) (ad : hp_ad) (S : hs_S) (T : hp_T) (b1 : Nat → Prop) (ka : Int32) (kw : Int32) (hP : hp_ok Z b1 M ad S T) (hB : hs_b S) : vx_Met l yX5_bestSpeed (hw_m yX5_bestSpeed cX5_bestSpeed 8 (some .int)) ({ frames := 9, cells := 6, slots := 36, locals := 190 } : Room) (va_Pc [.ref (ad 0 0), .int ka, .int kw] (hw_P Z M)) (hw_Qi Z (hq_R Z b1 M ad (st_bestSpeed S ka kw))) (hw_X Z (hq_X ["java/lang/IndexOutOfBoundsException", "java/lang/IllegalArgumentException"] M S (st_bestSpeed S ka kw))) 6 36 (hw_A Z) := by
  refine hw_xofi hst (by decide +kernel) rfl (Nat.le_of_ble_eq_true rfl) ?_
  intro p e s m below meth c ls Q hx hb hml hown hts hk hnm hI hl hret hxo hthr hthrW
  have hnp := hB.np
  have hnw := hB.nw
  have e0_0hP : M (ad 0 0) = hw_ob 6 [.ref (ad 0 1), .ref (ad 0 2), .ref (ad 0 3), .int (nI (hs_np S)), .int (nI (hs_nw S)), .int (hs_G S 0), .int (hs_G S 1), .ref (ad 0 4), .ref (ad 0 8)] := hP.m 0 0 (by decide)
  have e0_1hP : M (ad 0 1) = hw_ar Z 3 4 (fun j => some (ad 1 j)) := hP.m 0 1 (by decide)
  refine lv_aload_n hx hb dX5_bestSpeed_0 rfl (lv_at hl 0 rfl) ?_
  refine lv_iload_n hx hb dX5_bestSpeed_1 rfl (lv_at hl 1 rfl) ?_
  refine hw_xr hI hxo (hw_xV hx hb hml hown hts hk hI (m_X5_pieceAt l hst Z M (ad 0 0) (ad 0 1) (ad 0 2) (ad 0 3) (ad 0 4) (ad 0 8) (hs_np S) (hs_nw S) (hs_G S 0) (hs_G S 1) ka (ad 1) e0_0hP e0_1hP hnp) cv_X5_57 e0_0hP rfl rfl ⟨rfl, rfl⟩ ⟨(Nat.le_of_ble_eq_true rfl), (Nat.le_of_ble_eq_true rfl)⟩ rfl hl.1 rfl (Nat.le_of_ble_eq_true rfl) ⟨(Nat.le_of_ble_eq_true rfl), (Nat.le_of_ble_eq_true rfl)⟩ dX5_bestSpeed_2) (hq_xc (c := 1) (fun h => by unfold st_bestSpeed; exact (hq_if h ⟨rfl, rfl⟩)) ⟨by decide, rfl⟩) (Nat.le_of_ble_eq_true rfl) (Nat.le_of_ble_eq_true rfl) (fun r2 M2 H locs hR hI => ?_)
  obtain ⟨⟨hk2, rfl⟩, rfl⟩ := hR
  have hx2 := hb_okx (by omega) hk2
  have hi2 : hb_ix ka < 4 := by have := hx2.1; omega
  have e1_hb_ix_kahP : M (ad 1 (hb_ix ka)) = hw_ob 3 [.int (nI (hb_ix ka)), .ref (ad 2 (hb_ix ka)), .ref (ad 6 (hb_ix ka)), .int (hs_P S (hb_ix ka) 0), .int (nI (hs_D S (hb_ix ka))), .double (hs_U S (hb_ix ka)), .int (hs_P S (hb_ix ka) 3), hp_ref (ad 9) (hs_P S (hb_ix ka) 4), .int (hs_P S (hb_ix ka) 5), .int (hs_P S (hb_ix ka) 6), .int (hs_P S (hb_ix ka) 7), .int (hs_P S (hb_ix ka) 8), .int (hs_P S (hb_ix ka) 9)] := hP.m 1 (hb_ix ka) hi2
  refine lv_astore_n (lv' := [(3, .ref (ad 1 (hb_ix ka))), (0, .ref (ad 0 0)), (1, .int ka), (2, .int kw)]) hx hb dX5_bestSpeed_5 rfl hl (by decide) rfl (fun ls hl => ?_)
  refine lv_iload_n hx hb dX5_bestSpeed_6 rfl (lv_at hl 3 rfl) ?_
  refine hw_xv hI hxo (hw_xS hx hb hml hown hts hk hI (m_X5_checkPower l hst Z M kw) cs_X5_177 ⟨rfl, rfl⟩ ⟨(Nat.le_of_ble_eq_true rfl), (Nat.le_of_ble_eq_true rfl)⟩ rfl hl.1 rfl (Nat.le_of_ble_eq_true rfl) ⟨(Nat.le_of_ble_eq_true rfl), (Nat.le_of_ble_eq_true rfl)⟩ dX5_bestSpeed_7) (hq_xc (c := 2) (fun h => by unfold st_bestSpeed; exact (hq_el (fun q => q hk2) (hq_if h ⟨rfl, rfl⟩))) ⟨by decide, rfl⟩) (Nat.le_of_ble_eq_true rfl) (Nat.le_of_ble_eq_true rfl) (fun M7 H locs hR hI => ?_)
  obtain ⟨hk7, rfl⟩ := hR
  refine lv_iconst (v := nI 1) hx hb dX5_bestSpeed_10 (by decide) ?_
  refine lv_istore (lv' := [(4, .int (nI 1)), (3, .ref (ad 1 (hb_ix ka))), (0, .ref (ad 0 0)), (1, .int ka), (2, .int kw)]) hx hb dX5_bestSpeed_11 hl (by decide) rfl (fun ls hl => ?_)
  refine lv_iconst (v := nI 0) hx hb dX5_bestSpeed_13 (by decide) ?_
  refine lv_istore (lv' := [(5, .int (nI 0)), (4, .int (nI 1)), (3, .ref (ad 1 (hb_ix ka))), (0, .ref (ad 0 0)), (1, .int ka), (2, .int kw)]) hx hb dX5_bestSpeed_14 hl (by decide) rfl (fun ls hl => ?_)
  refine lv_iconst (v := nI 1) hx hb dX5_bestSpeed_16 (by decide) ?_
  refine lv_istore (lv' := [(6, .int (nI 1)), (5, .int (nI 0)), (4, .int (nI 1)), (3, .ref (ad 1 (hb_ix ka))), (0, .ref (ad 0 0)), (1, .int ka), (2, .int kw)]) hx hb dX5_bestSpeed_17 hl (by decide) rfl (fun ls hl => ?_)
  suffices LP19 : ∀ v, v ≤ 20 → ∀ (M1 : hw_M) (T1 : hp_T) (hP1 : hp_ok Z b1 M1 ad S T1) (hF1 : ∀ a, b1 a → M1 a = M a) (H : Heap) (locs : List Loc) (ls : Array Slot), hw_iv Z s (M1) H locs → lv_has ls 8 [(4, .int (nI (hb_bsL (hs_C S (hb_ix ka)) kw v))), (5, .int (nI (hb_bsF (hs_C S (hb_ix ka)) kw v))), (6, .int (nI (v + 1))), (0, .ref (ad 0 0)), (3, .ref (ad 1 (hb_ix ka))), (2, .int kw)] → W p l e ({ frames := 9, cells := 6, slots := 36, locals := 190 } : Room) s m ([.ref (ad 0 0), .int ka, .int kw] : List Value).toArray below meth c H locs 2 12 Q (F0 m 19 ls []) from LP19 0 (by omega) M T hP (fun _ _ => rfl) _ _ _ hI (lv_sub hl [2, 1, 0, 4, 3, 6] rfl)
  refine hw_loop ?_ (fun v hi19 ih19 => ?_)
  · intro M1 T1 hP1 hF1 H locs ls hI hl
    have e0_0hP1 : M1 (ad 0 0) = hw_ob 6 [.ref (ad 0 1), .ref (ad 0 2), .ref (ad 0 3), .int (nI (hs_np S)), .int (nI (hs_nw S)), .int (hs_G S 0), .int (hs_G S 1), .ref (ad 0 4), .ref (ad 0 8)] := hP1.m 0 0 (by decide)
    have e1_hb_ix_kahP1 : M1 (ad 1 (hb_ix ka)) = hw_ob 3 [.int (nI (hb_ix ka)), .ref (ad 2 (hb_ix ka)), .ref (ad 6 (hb_ix ka)), .int (hs_P S (hb_ix ka) 0), .int (nI (hs_D S (hb_ix ka))), .double (hs_U S (hb_ix ka)), .int (hs_P S (hb_ix ka) 3), hp_ref (ad 9) (hs_P S (hb_ix ka) 4), .int (hs_P S (hb_ix ka) 5), .int (hs_P S (hb_ix ka) 6), .int (hs_P S (hb_ix ka) 7), .int (hs_P S (hb_ix ka) 8), .int (hs_P S (hb_ix ka) 9)] := hP1.m 1 (hb_ix ka) hi2
    refine lv_iload hx hb dX5_bestSpeed_19 (lv_at hl 2 rfl) ?_
    refine lv_bipush (v := nI 20) hx hb dX5_bestSpeed_21 (by decide) ?_
    refine lv_icmp_gt (tgt := 69) hx hb dX5_bestSpeed_23 (by decide) (fun _ => ?_) (fun hc => absurd (by decide) hc)
    refine lv_iload hx hb dX5_bestSpeed_69 (lv_at hl 0 rfl) ?_
    exact hret hI (hq_r (by unfold st_bestSpeed; exact (if_neg (fun q => q hk2)).trans (if_neg (fun q => q hk7))) hP1 hF1) (Nat.le_of_ble_eq_true rfl) (Nat.le_of_ble_eq_true rfl) dX5_bestSpeed_71
  · intro M1 T1 hP1 hF1 H locs ls hI hl
    have e0_0hP1 : M1 (ad 0 0) = hw_ob 6 [.ref (ad 0 1), .ref (ad 0 2), .ref (ad 0 3), .int (nI (hs_np S)), .int (nI (hs_nw S)), .int (hs_G S 0), .int (hs_G S 1), .ref (ad 0 4), .ref (ad 0 8)] := hP1.m 0 0 (by decide)
    have e1_hb_ix_kahP1 : M1 (ad 1 (hb_ix ka)) = hw_ob 3 [.int (nI (hb_ix ka)), .ref (ad 2 (hb_ix ka)), .ref (ad 6 (hb_ix ka)), .int (hs_P S (hb_ix ka) 0), .int (nI (hs_D S (hb_ix ka))), .double (hs_U S (hb_ix ka)), .int (hs_P S (hb_ix ka) 3), hp_ref (ad 9) (hs_P S (hb_ix ka) 4), .int (hs_P S (hb_ix ka) 5), .int (hs_P S (hb_ix ka) 6), .int (hs_P S (hb_ix ka) 7), .int (hs_P S (hb_ix ka) 8), .int (hs_P S (hb_ix ka) 9)] := hP1.m 1 (hb_ix ka) hi2
    refine lv_iload hx hb dX5_bestSpeed_19 (lv_at hl 2 rfl) ?_
    refine lv_bipush (v := nI 20) hx hb dX5_bestSpeed_21 (by decide) ?_
    refine lv_icmp_gt (tgt := 69) hx hb dX5_bestSpeed_23 (by decide) (fun hc => absurd hc (nI_nlt (by omega) (by omega))) (fun _ => ?_)
    refine lv_aload_n hx hb dX5_bestSpeed_26 rfl (lv_at hl 3 rfl) ?_
    refine lv_aload_n hx hb dX5_bestSpeed_27 rfl (lv_at hl 4 rfl) ?_
    refine hw_get hx hb hts hown hk hI fd_X5_68 e1_hb_ix_kahP1 rfl dX5_bestSpeed_28 ?_
    refine lv_iload_n hx hb dX5_bestSpeed_31 rfl (lv_at hl 5 rfl) ?_
    refine lv_iload hx hb dX5_bestSpeed_32 (lv_at hl 2 rfl) ?_
    refine hw_cd hI (hw_rS hx hb hml hown hts hk hI (m_X5_energyOf l Z M1 kw (nI (v + 1)) (hb_pw0 hk7) (hb_s1 (by omega))) cs_X5_329 ⟨rfl, rfl⟩ ⟨(Nat.le_of_ble_eq_true rfl), (Nat.le_of_ble_eq_true rfl)⟩ rfl hl.1 rfl (Nat.le_of_ble_eq_true rfl) ⟨(Nat.le_of_ble_eq_true rfl), (Nat.le_of_ble_eq_true rfl)⟩ dX5_bestSpeed_34) (fun r34 M34 H locs hR hI => ?_)
    obtain ⟨rfl, rfl⟩ := hR
    refine hw_ci hI (hw_rV hx hb hml hown hts hk hI (m_X5_flawsAt l Z M1 ad S T1 b1 (hb_ix ka) (hb_en kw (nI (v + 1))) hP1 hB hi2 (hb_en_pz (hb_pw0 hk7) (hb_s1 (by omega)))) cv_X5_333 e0_0hP1 rfl rfl ⟨rfl, rfl⟩ ⟨(Nat.le_of_ble_eq_true rfl), (Nat.le_of_ble_eq_true rfl)⟩ rfl hl.1 rfl (Nat.le_of_ble_eq_true rfl) ⟨(Nat.le_of_ble_eq_true rfl), (Nat.le_of_ble_eq_true rfl)⟩ dX5_bestSpeed_37) (fun r37 M37 H locs hR hI => ?_)
    obtain ⟨rfl, ⟨T37, hP37⟩, hF37⟩ := hR
    have hG37 : ∀ a, b1 a → M37 a = M a := fun a ha => (hF37 a ha).trans (hF1 a ha)
    have e0_0hP37 : M37 (ad 0 0) = hw_ob 6 [.ref (ad 0 1), .ref (ad 0 2), .ref (ad 0 3), .int (nI (hs_np S)), .int (nI (hs_nw S)), .int (hs_G S 0), .int (hs_G S 1), .ref (ad 0 4), .ref (ad 0 8)] := hP37.m 0 0 (by decide)
    have e1_hb_ix_kahP37 : M37 (ad 1 (hb_ix ka)) = hw_ob 3 [.int (nI (hb_ix ka)), .ref (ad 2 (hb_ix ka)), .ref (ad 6 (hb_ix ka)), .int (hs_P S (hb_ix ka) 0), .int (nI (hs_D S (hb_ix ka))), .double (hs_U S (hb_ix ka)), .int (hs_P S (hb_ix ka) 3), hp_ref (ad 9) (hs_P S (hb_ix ka) 4), .int (hs_P S (hb_ix ka) 5), .int (hs_P S (hb_ix ka) 6), .int (hs_P S (hb_ix ka) 7), .int (hs_P S (hb_ix ka) 8), .int (hs_P S (hb_ix ka) 9)] := hP37.m 1 (hb_ix ka) hi2
    refine lv_istore (lv' := [(7, .int (nI (hb_fw (hs_C S (hb_ix ka)) kw (v + 1)))), (4, .int (nI (hb_bsL (hs_C S (hb_ix ka)) kw v))), (5, .int (nI (hb_bsF (hs_C S (hb_ix ka)) kw v))), (6, .int (nI (v + 1))), (0, .ref (ad 0 0)), (3, .ref (ad 1 (hb_ix ka))), (2, .int kw)]) hx hb dX5_bestSpeed_40 hl (by decide) rfl (fun ls hl => ?_)
    have b1_ := hb_fw_le (hs_C S (hb_ix ka)) kw (v + 1)
    have b2_ := hb_bsF_le (hs_C S (hb_ix ka)) kw v
    refine lv_iload hx hb dX5_bestSpeed_42 (lv_at hl 3 rfl) ?_
    refine lv_iconst (v := nI 1) hx hb dX5_bestSpeed_44 (by decide) ?_
    refine lv_icmp_eq (tgt := 55) hx hb dX5_bestSpeed_45 (by decide) (fun c45 => ?_) (fun c45 => ?_)
    · refine lv_iload hx hb dX5_bestSpeed_55 (lv_at hl 3 rfl) ?_
      refine lv_istore (lv' := [(4, .int (nI (v + 1))), (7, .int (nI (hb_fw (hs_C S (hb_ix ka)) kw (v + 1)))), (5, .int (nI (hb_bsF (hs_C S (hb_ix ka)) kw v))), (6, .int (nI (v + 1))), (0, .ref (ad 0 0)), (3, .ref (ad 1 (hb_ix ka))), (2, .int kw)]) hx hb dX5_bestSpeed_57 hl (by decide) rfl (fun ls hl => ?_)
      refine lv_iload hx hb dX5_bestSpeed_59 (lv_at hl 1 rfl) ?_
      refine lv_istore (lv' := [(5, .int (nI (hb_fw (hs_C S (hb_ix ka)) kw (v + 1)))), (4, .int (nI (v + 1))), (7, .int (nI (hb_fw (hs_C S (hb_ix ka)) kw (v + 1)))), (6, .int (nI (v + 1))), (0, .ref (ad 0 0)), (3, .ref (ad 1 (hb_ix ka))), (2, .int kw)]) hx hb dX5_bestSpeed_61 hl (by decide) rfl (fun ls hl => ?_)
      have hv0 : v = 0 := by have := (nI_eq (a := v + 1) (b := 1) (by omega) (by omega)).mp c45; omega
      refine lv_iinc (v := nI (v + 1 + 1)) (lv' := [(6, .int (nI (v + 1 + 1))), (5, .int (nI (hb_fw (hs_C S (hb_ix ka)) kw (v + 1)))), (4, .int (nI (v + 1))), (7, .int (nI (hb_fw (hs_C S (hb_ix ka)) kw (v + 1)))), (0, .ref (ad 0 0)), (3, .ref (ad 1 (hb_ix ka))), (2, .int kw)]) hx hb dX5_bestSpeed_63 hl (k := 3) rfl (hw_inc _) (by decide) rfl (fun ls hl => ?_)
      refine lv_goto (tgt := 19) hx hb dX5_bestSpeed_66 (by decide) ?_
      exact ih19 _ _ hP37 hG37 _ _ _ hI (lv_sub hl [2, 1, 0, 4, 5, 6] (by rw [show hb_bsL (hs_C S (hb_ix ka)) kw (v + 1) = v + 1 from hb_bs_y0 hv0, show hb_bsF (hs_C S (hb_ix ka)) kw (v + 1) = hb_fw (hs_C S (hb_ix ka)) kw (v + 1) by (show hb_fw (hs_C S (hb_ix ka)) kw (hb_bs (hs_C S (hb_ix ka)) kw v) = _; rw [hb_bs_y0 hv0])]; rfl))
    · refine lv_iload hx hb dX5_bestSpeed_48 (lv_at hl 0 rfl) ?_
      refine lv_iload hx hb dX5_bestSpeed_50 (lv_at hl 2 rfl) ?_
      refine lv_icmp_gt (tgt := 63) hx hb dX5_bestSpeed_52 (by decide) (fun c52 => ?_) (fun c52 => ?_)
      · have hv0 : ¬ v = 0 := fun q => c45 (by rw [q])
        have hyn : ¬ hb_fw (hs_C S (hb_ix ka)) kw (v + 1) ≤ hb_bsF (hs_C S (hb_ix ka)) kw v := fun q => absurd c52 (nI_nlt q (by omega))
        refine lv_iinc (v := nI (v + 1 + 1)) (lv' := [(6, .int (nI (v + 1 + 1))), (7, .int (nI (hb_fw (hs_C S (hb_ix ka)) kw (v + 1)))), (4, .int (nI (hb_bsL (hs_C S (hb_ix ka)) kw v))), (5, .int (nI (hb_bsF (hs_C S (hb_ix ka)) kw v))), (0, .ref (ad 0 0)), (3, .ref (ad 1 (hb_ix ka))), (2, .int kw)]) hx hb dX5_bestSpeed_63 hl (k := 3) rfl (hw_inc _) (by decide) rfl (fun ls hl => ?_)
        refine lv_goto (tgt := 19) hx hb dX5_bestSpeed_66 (by decide) ?_
        exact ih19 _ _ hP37 hG37 _ _ _ hI (lv_sub hl [2, 3, 0, 4, 5, 6] (by rw [show hb_bsL (hs_C S (hb_ix ka)) kw (v + 1) = hb_bsL (hs_C S (hb_ix ka)) kw v from (hb_bs_n hv0 hyn).1, show hb_bsF (hs_C S (hb_ix ka)) kw (v + 1) = hb_bsF (hs_C S (hb_ix ka)) kw v from (hb_bs_n hv0 hyn).2]; rfl))
      · refine lv_iload hx hb dX5_bestSpeed_55 (lv_at hl 3 rfl) ?_
        refine lv_istore (lv' := [(4, .int (nI (v + 1))), (7, .int (nI (hb_fw (hs_C S (hb_ix ka)) kw (v + 1)))), (5, .int (nI (hb_bsF (hs_C S (hb_ix ka)) kw v))), (6, .int (nI (v + 1))), (0, .ref (ad 0 0)), (3, .ref (ad 1 (hb_ix ka))), (2, .int kw)]) hx hb dX5_bestSpeed_57 hl (by decide) rfl (fun ls hl => ?_)
        refine lv_iload hx hb dX5_bestSpeed_59 (lv_at hl 1 rfl) ?_
        refine lv_istore (lv' := [(5, .int (nI (hb_fw (hs_C S (hb_ix ka)) kw (v + 1)))), (4, .int (nI (v + 1))), (7, .int (nI (hb_fw (hs_C S (hb_ix ka)) kw (v + 1)))), (6, .int (nI (v + 1))), (0, .ref (ad 0 0)), (3, .ref (ad 1 (hb_ix ka))), (2, .int kw)]) hx hb dX5_bestSpeed_61 hl (by decide) rfl (fun ls hl => ?_)
        have hv0 : ¬ v = 0 := fun q => c45 (by rw [q])
        have hyn : hb_fw (hs_C S (hb_ix ka)) kw (v + 1) ≤ hb_bsF (hs_C S (hb_ix ka)) kw v := Nat.le_of_not_lt (fun q => c52 (nI_lt q (by omega)))
        refine lv_iinc (v := nI (v + 1 + 1)) (lv' := [(6, .int (nI (v + 1 + 1))), (5, .int (nI (hb_fw (hs_C S (hb_ix ka)) kw (v + 1)))), (4, .int (nI (v + 1))), (7, .int (nI (hb_fw (hs_C S (hb_ix ka)) kw (v + 1)))), (0, .ref (ad 0 0)), (3, .ref (ad 1 (hb_ix ka))), (2, .int kw)]) hx hb dX5_bestSpeed_63 hl (k := 3) rfl (hw_inc _) (by decide) rfl (fun ls hl => ?_)
        refine lv_goto (tgt := 19) hx hb dX5_bestSpeed_66 (by decide) ?_
        exact ih19 _ _ hP37 hG37 _ _ _ hI (lv_sub hl [2, 1, 0, 4, 5, 6] (by rw [show hb_bsL (hs_C S (hb_ix ka)) kw (v + 1) = v + 1 from hb_bs_y hv0 hyn, show hb_bsF (hs_C S (hb_ix ka)) kw (v + 1) = hb_fw (hs_C S (hb_ix ka)) kw (v + 1) by (show hb_fw (hs_C S (hb_ix ka)) kw (hb_bs (hs_C S (hb_ix ka)) kw v) = _; rw [hb_bs_y hv0 hyn])]; rfl))

set_option maxHeartbeats 4000000 in
set_option maxRecDepth 100000 in
theorem m_X5_bestSpeed_k (l : Launch) (Z : hw_Z) (M : hw_M) (ad : hp_ad) (S : hs_S) (T : hp_T) (b1 : Nat → Prop) (j : Nat) (kw : Int32) (hP : hp_ok Z b1 M ad S T) (hB : hs_b S) (hj : j < hs_np S) (hpw : hb_pw kw) : Met l yX5_bestSpeed (hw_m yX5_bestSpeed cX5_bestSpeed 8 (some .int)) ({ frames := 9, cells := 0, slots := 0, locals := 190 } : Room) (va_Pc [.ref (ad 0 0), .int (nI j), .int kw] (hw_P Z M)) (hw_Qi Z (hq_T Z b1 M ad S (nI (hb_bs (hs_C S j) kw 19)))) 0 0 (hw_A Z) := by
  refine hw_ofi (by decide +kernel) rfl (Nat.le_of_ble_eq_true rfl) ?_
  intro p e s m below meth c ls Q hx hb hml hown hts hk hnm hI hl hret
  have hnp := hB.np
  have hnw := hB.nw
  have e0_0hP : M (ad 0 0) = hw_ob 6 [.ref (ad 0 1), .ref (ad 0 2), .ref (ad 0 3), .int (nI (hs_np S)), .int (nI (hs_nw S)), .int (hs_G S 0), .int (hs_G S 1), .ref (ad 0 4), .ref (ad 0 8)] := hP.m 0 0 (by decide)
  have e0_1hP : M (ad 0 1) = hw_ar Z 3 4 (fun j => some (ad 1 j)) := hP.m 0 1 (by decide)
  refine lv_aload_n hx hb dX5_bestSpeed_0 rfl (lv_at hl 0 rfl) ?_
  refine lv_iload_n hx hb dX5_bestSpeed_1 rfl (lv_at hl 1 rfl) ?_
  refine hw_cr hI (hw_rV hx hb hml hown hts hk hI (m_X5_pieceAt_k l Z M (ad 0 0) (ad 0 1) (ad 0 2) (ad 0 3) (ad 0 4) (ad 0 8) (hs_np S) (hs_nw S) (hs_G S 0) (hs_G S 1) j (ad 1) e0_0hP e0_1hP hnp hj) cv_X5_57 e0_0hP rfl rfl ⟨rfl, rfl⟩ ⟨(Nat.le_of_ble_eq_true rfl), (Nat.le_of_ble_eq_true rfl)⟩ rfl hl.1 rfl (Nat.le_of_ble_eq_true rfl) ⟨(Nat.le_of_ble_eq_true rfl), (Nat.le_of_ble_eq_true rfl)⟩ dX5_bestSpeed_2) (fun r2 M2 H locs hR hI => ?_)
  obtain ⟨rfl, rfl⟩ := hR
  have hj4 : j < 4 := by omega
  have e1_jhP : M (ad 1 j) = hw_ob 3 [.int (nI j), .ref (ad 2 j), .ref (ad 6 j), .int (hs_P S j 0), .int (nI (hs_D S j)), .double (hs_U S j), .int (hs_P S j 3), hp_ref (ad 9) (hs_P S j 4), .int (hs_P S j 5), .int (hs_P S j 6), .int (hs_P S j 7), .int (hs_P S j 8), .int (hs_P S j 9)] := hP.m 1 j hj4
  refine lv_astore_n (lv' := [(3, .ref (ad 1 j)), (0, .ref (ad 0 0)), (1, .int (nI j)), (2, .int kw)]) hx hb dX5_bestSpeed_5 rfl hl (by decide) rfl (fun ls hl => ?_)
  refine lv_iload_n hx hb dX5_bestSpeed_6 rfl (lv_at hl 3 rfl) ?_
  refine hw_cv hI (hw_rS hx hb hml hown hts hk hI (m_X5_checkPower_k l Z M kw hpw) cs_X5_177 ⟨rfl, rfl⟩ ⟨(Nat.le_of_ble_eq_true rfl), (Nat.le_of_ble_eq_true rfl)⟩ rfl hl.1 rfl (Nat.le_of_ble_eq_true rfl) ⟨(Nat.le_of_ble_eq_true rfl), (Nat.le_of_ble_eq_true rfl)⟩ dX5_bestSpeed_7) (fun M7 H locs hR hI => ?_)
  subst hR
  refine lv_iconst (v := nI 1) hx hb dX5_bestSpeed_10 (by decide) ?_
  refine lv_istore (lv' := [(4, .int (nI 1)), (3, .ref (ad 1 j)), (0, .ref (ad 0 0)), (1, .int (nI j)), (2, .int kw)]) hx hb dX5_bestSpeed_11 hl (by decide) rfl (fun ls hl => ?_)
  refine lv_iconst (v := nI 0) hx hb dX5_bestSpeed_13 (by decide) ?_
  refine lv_istore (lv' := [(5, .int (nI 0)), (4, .int (nI 1)), (3, .ref (ad 1 j)), (0, .ref (ad 0 0)), (1, .int (nI j)), (2, .int kw)]) hx hb dX5_bestSpeed_14 hl (by decide) rfl (fun ls hl => ?_)
  refine lv_iconst (v := nI 1) hx hb dX5_bestSpeed_16 (by decide) ?_
  refine lv_istore (lv' := [(6, .int (nI 1)), (5, .int (nI 0)), (4, .int (nI 1)), (3, .ref (ad 1 j)), (0, .ref (ad 0 0)), (1, .int (nI j)), (2, .int kw)]) hx hb dX5_bestSpeed_17 hl (by decide) rfl (fun ls hl => ?_)
  suffices LP19 : ∀ v, v ≤ 20 → ∀ (M1 : hw_M) (T1 : hp_T) (hP1 : hp_ok Z b1 M1 ad S T1) (hF1 : ∀ a, b1 a → M1 a = M a) (H : Heap) (locs : List Loc) (ls : Array Slot), hw_iv Z s (M1) H locs → lv_has ls 8 [(4, .int (nI (hb_bsL (hs_C S j) kw v))), (5, .int (nI (hb_bsF (hs_C S j) kw v))), (6, .int (nI (v + 1))), (0, .ref (ad 0 0)), (3, .ref (ad 1 j)), (2, .int kw)] → W p l e ({ frames := 9, cells := 0, slots := 0, locals := 190 } : Room) s m ([.ref (ad 0 0), .int (nI j), .int kw] : List Value).toArray below meth c H locs 0 0 Q (F0 m 19 ls []) from LP19 0 (by omega) M T hP (fun _ _ => rfl) _ _ _ hI (lv_sub hl [2, 1, 0, 4, 3, 6] rfl)
  refine hw_loop ?_ (fun v hi19 ih19 => ?_)
  · intro M1 T1 hP1 hF1 H locs ls hI hl
    have e0_0hP1 : M1 (ad 0 0) = hw_ob 6 [.ref (ad 0 1), .ref (ad 0 2), .ref (ad 0 3), .int (nI (hs_np S)), .int (nI (hs_nw S)), .int (hs_G S 0), .int (hs_G S 1), .ref (ad 0 4), .ref (ad 0 8)] := hP1.m 0 0 (by decide)
    have e1_jhP1 : M1 (ad 1 j) = hw_ob 3 [.int (nI j), .ref (ad 2 j), .ref (ad 6 j), .int (hs_P S j 0), .int (nI (hs_D S j)), .double (hs_U S j), .int (hs_P S j 3), hp_ref (ad 9) (hs_P S j 4), .int (hs_P S j 5), .int (hs_P S j 6), .int (hs_P S j 7), .int (hs_P S j 8), .int (hs_P S j 9)] := hP1.m 1 j hj4
    refine lv_iload hx hb dX5_bestSpeed_19 (lv_at hl 2 rfl) ?_
    refine lv_bipush (v := nI 20) hx hb dX5_bestSpeed_21 (by decide) ?_
    refine lv_icmp_gt (tgt := 69) hx hb dX5_bestSpeed_23 (by decide) (fun _ => ?_) (fun hc => absurd (by decide) hc)
    refine lv_iload hx hb dX5_bestSpeed_69 (lv_at hl 0 rfl) ?_
    exact hret hI (hq_t rfl hP1 hF1) (Nat.le_of_ble_eq_true rfl) (Nat.le_of_ble_eq_true rfl) dX5_bestSpeed_71
  · intro M1 T1 hP1 hF1 H locs ls hI hl
    have e0_0hP1 : M1 (ad 0 0) = hw_ob 6 [.ref (ad 0 1), .ref (ad 0 2), .ref (ad 0 3), .int (nI (hs_np S)), .int (nI (hs_nw S)), .int (hs_G S 0), .int (hs_G S 1), .ref (ad 0 4), .ref (ad 0 8)] := hP1.m 0 0 (by decide)
    have e1_jhP1 : M1 (ad 1 j) = hw_ob 3 [.int (nI j), .ref (ad 2 j), .ref (ad 6 j), .int (hs_P S j 0), .int (nI (hs_D S j)), .double (hs_U S j), .int (hs_P S j 3), hp_ref (ad 9) (hs_P S j 4), .int (hs_P S j 5), .int (hs_P S j 6), .int (hs_P S j 7), .int (hs_P S j 8), .int (hs_P S j 9)] := hP1.m 1 j hj4
    refine lv_iload hx hb dX5_bestSpeed_19 (lv_at hl 2 rfl) ?_
    refine lv_bipush (v := nI 20) hx hb dX5_bestSpeed_21 (by decide) ?_
    refine lv_icmp_gt (tgt := 69) hx hb dX5_bestSpeed_23 (by decide) (fun hc => absurd hc (nI_nlt (by omega) (by omega))) (fun _ => ?_)
    refine lv_aload_n hx hb dX5_bestSpeed_26 rfl (lv_at hl 3 rfl) ?_
    refine lv_aload_n hx hb dX5_bestSpeed_27 rfl (lv_at hl 4 rfl) ?_
    refine hw_get hx hb hts hown hk hI fd_X5_68 e1_jhP1 rfl dX5_bestSpeed_28 ?_
    refine lv_iload_n hx hb dX5_bestSpeed_31 rfl (lv_at hl 5 rfl) ?_
    refine lv_iload hx hb dX5_bestSpeed_32 (lv_at hl 2 rfl) ?_
    refine hw_cd hI (hw_rS hx hb hml hown hts hk hI (m_X5_energyOf l Z M1 kw (nI (v + 1)) (hb_pw0 hpw) (hb_s1 (by omega))) cs_X5_329 ⟨rfl, rfl⟩ ⟨(Nat.le_of_ble_eq_true rfl), (Nat.le_of_ble_eq_true rfl)⟩ rfl hl.1 rfl (Nat.le_of_ble_eq_true rfl) ⟨(Nat.le_of_ble_eq_true rfl), (Nat.le_of_ble_eq_true rfl)⟩ dX5_bestSpeed_34) (fun r34 M34 H locs hR hI => ?_)
    obtain ⟨rfl, rfl⟩ := hR
    refine hw_ci hI (hw_rV hx hb hml hown hts hk hI (m_X5_flawsAt l Z M1 ad S T1 b1 j (hb_en kw (nI (v + 1))) hP1 hB hj4 (hb_en_pz (hb_pw0 hpw) (hb_s1 (by omega)))) cv_X5_333 e0_0hP1 rfl rfl ⟨rfl, rfl⟩ ⟨(Nat.le_of_ble_eq_true rfl), (Nat.le_of_ble_eq_true rfl)⟩ rfl hl.1 rfl (Nat.le_of_ble_eq_true rfl) ⟨(Nat.le_of_ble_eq_true rfl), (Nat.le_of_ble_eq_true rfl)⟩ dX5_bestSpeed_37) (fun r37 M37 H locs hR hI => ?_)
    obtain ⟨rfl, ⟨T37, hP37⟩, hF37⟩ := hR
    have hG37 : ∀ a, b1 a → M37 a = M a := fun a ha => (hF37 a ha).trans (hF1 a ha)
    have e0_0hP37 : M37 (ad 0 0) = hw_ob 6 [.ref (ad 0 1), .ref (ad 0 2), .ref (ad 0 3), .int (nI (hs_np S)), .int (nI (hs_nw S)), .int (hs_G S 0), .int (hs_G S 1), .ref (ad 0 4), .ref (ad 0 8)] := hP37.m 0 0 (by decide)
    have e1_jhP37 : M37 (ad 1 j) = hw_ob 3 [.int (nI j), .ref (ad 2 j), .ref (ad 6 j), .int (hs_P S j 0), .int (nI (hs_D S j)), .double (hs_U S j), .int (hs_P S j 3), hp_ref (ad 9) (hs_P S j 4), .int (hs_P S j 5), .int (hs_P S j 6), .int (hs_P S j 7), .int (hs_P S j 8), .int (hs_P S j 9)] := hP37.m 1 j hj4
    refine lv_istore (lv' := [(7, .int (nI (hb_fw (hs_C S j) kw (v + 1)))), (4, .int (nI (hb_bsL (hs_C S j) kw v))), (5, .int (nI (hb_bsF (hs_C S j) kw v))), (6, .int (nI (v + 1))), (0, .ref (ad 0 0)), (3, .ref (ad 1 j)), (2, .int kw)]) hx hb dX5_bestSpeed_40 hl (by decide) rfl (fun ls hl => ?_)
    have b1_ := hb_fw_le (hs_C S j) kw (v + 1)
    have b2_ := hb_bsF_le (hs_C S j) kw v
    refine lv_iload hx hb dX5_bestSpeed_42 (lv_at hl 3 rfl) ?_
    refine lv_iconst (v := nI 1) hx hb dX5_bestSpeed_44 (by decide) ?_
    refine lv_icmp_eq (tgt := 55) hx hb dX5_bestSpeed_45 (by decide) (fun c45 => ?_) (fun c45 => ?_)
    · refine lv_iload hx hb dX5_bestSpeed_55 (lv_at hl 3 rfl) ?_
      refine lv_istore (lv' := [(4, .int (nI (v + 1))), (7, .int (nI (hb_fw (hs_C S j) kw (v + 1)))), (5, .int (nI (hb_bsF (hs_C S j) kw v))), (6, .int (nI (v + 1))), (0, .ref (ad 0 0)), (3, .ref (ad 1 j)), (2, .int kw)]) hx hb dX5_bestSpeed_57 hl (by decide) rfl (fun ls hl => ?_)
      refine lv_iload hx hb dX5_bestSpeed_59 (lv_at hl 1 rfl) ?_
      refine lv_istore (lv' := [(5, .int (nI (hb_fw (hs_C S j) kw (v + 1)))), (4, .int (nI (v + 1))), (7, .int (nI (hb_fw (hs_C S j) kw (v + 1)))), (6, .int (nI (v + 1))), (0, .ref (ad 0 0)), (3, .ref (ad 1 j)), (2, .int kw)]) hx hb dX5_bestSpeed_61 hl (by decide) rfl (fun ls hl => ?_)
      have hv0 : v = 0 := by have := (nI_eq (a := v + 1) (b := 1) (by omega) (by omega)).mp c45; omega
      refine lv_iinc (v := nI (v + 1 + 1)) (lv' := [(6, .int (nI (v + 1 + 1))), (5, .int (nI (hb_fw (hs_C S j) kw (v + 1)))), (4, .int (nI (v + 1))), (7, .int (nI (hb_fw (hs_C S j) kw (v + 1)))), (0, .ref (ad 0 0)), (3, .ref (ad 1 j)), (2, .int kw)]) hx hb dX5_bestSpeed_63 hl (k := 3) rfl (hw_inc _) (by decide) rfl (fun ls hl => ?_)
      refine lv_goto (tgt := 19) hx hb dX5_bestSpeed_66 (by decide) ?_
      exact ih19 _ _ hP37 hG37 _ _ _ hI (lv_sub hl [2, 1, 0, 4, 5, 6] (by rw [show hb_bsL (hs_C S j) kw (v + 1) = v + 1 from hb_bs_y0 hv0, show hb_bsF (hs_C S j) kw (v + 1) = hb_fw (hs_C S j) kw (v + 1) by (show hb_fw (hs_C S j) kw (hb_bs (hs_C S j) kw v) = _; rw [hb_bs_y0 hv0])]; rfl))
    · refine lv_iload hx hb dX5_bestSpeed_48 (lv_at hl 0 rfl) ?_
      refine lv_iload hx hb dX5_bestSpeed_50 (lv_at hl 2 rfl) ?_
      refine lv_icmp_gt (tgt := 63) hx hb dX5_bestSpeed_52 (by decide) (fun c52 => ?_) (fun c52 => ?_)
      · have hv0 : ¬ v = 0 := fun q => c45 (by rw [q])
        have hyn : ¬ hb_fw (hs_C S j) kw (v + 1) ≤ hb_bsF (hs_C S j) kw v := fun q => absurd c52 (nI_nlt q (by omega))
        refine lv_iinc (v := nI (v + 1 + 1)) (lv' := [(6, .int (nI (v + 1 + 1))), (7, .int (nI (hb_fw (hs_C S j) kw (v + 1)))), (4, .int (nI (hb_bsL (hs_C S j) kw v))), (5, .int (nI (hb_bsF (hs_C S j) kw v))), (0, .ref (ad 0 0)), (3, .ref (ad 1 j)), (2, .int kw)]) hx hb dX5_bestSpeed_63 hl (k := 3) rfl (hw_inc _) (by decide) rfl (fun ls hl => ?_)
        refine lv_goto (tgt := 19) hx hb dX5_bestSpeed_66 (by decide) ?_
        exact ih19 _ _ hP37 hG37 _ _ _ hI (lv_sub hl [2, 3, 0, 4, 5, 6] (by rw [show hb_bsL (hs_C S j) kw (v + 1) = hb_bsL (hs_C S j) kw v from (hb_bs_n hv0 hyn).1, show hb_bsF (hs_C S j) kw (v + 1) = hb_bsF (hs_C S j) kw v from (hb_bs_n hv0 hyn).2]; rfl))
      · refine lv_iload hx hb dX5_bestSpeed_55 (lv_at hl 3 rfl) ?_
        refine lv_istore (lv' := [(4, .int (nI (v + 1))), (7, .int (nI (hb_fw (hs_C S j) kw (v + 1)))), (5, .int (nI (hb_bsF (hs_C S j) kw v))), (6, .int (nI (v + 1))), (0, .ref (ad 0 0)), (3, .ref (ad 1 j)), (2, .int kw)]) hx hb dX5_bestSpeed_57 hl (by decide) rfl (fun ls hl => ?_)
        refine lv_iload hx hb dX5_bestSpeed_59 (lv_at hl 1 rfl) ?_
        refine lv_istore (lv' := [(5, .int (nI (hb_fw (hs_C S j) kw (v + 1)))), (4, .int (nI (v + 1))), (7, .int (nI (hb_fw (hs_C S j) kw (v + 1)))), (6, .int (nI (v + 1))), (0, .ref (ad 0 0)), (3, .ref (ad 1 j)), (2, .int kw)]) hx hb dX5_bestSpeed_61 hl (by decide) rfl (fun ls hl => ?_)
        have hv0 : ¬ v = 0 := fun q => c45 (by rw [q])
        have hyn : hb_fw (hs_C S j) kw (v + 1) ≤ hb_bsF (hs_C S j) kw v := Nat.le_of_not_lt (fun q => c52 (nI_lt q (by omega)))
        refine lv_iinc (v := nI (v + 1 + 1)) (lv' := [(6, .int (nI (v + 1 + 1))), (5, .int (nI (hb_fw (hs_C S j) kw (v + 1)))), (4, .int (nI (v + 1))), (7, .int (nI (hb_fw (hs_C S j) kw (v + 1)))), (0, .ref (ad 0 0)), (3, .ref (ad 1 j)), (2, .int kw)]) hx hb dX5_bestSpeed_63 hl (k := 3) rfl (hw_inc _) (by decide) rfl (fun ls hl => ?_)
        refine lv_goto (tgt := 19) hx hb dX5_bestSpeed_66 (by decide) ?_
        exact ih19 _ _ hP37 hG37 _ _ _ hI (lv_sub hl [2, 1, 0, 4, 5, 6] (by rw [show hb_bsL (hs_C S j) kw (v + 1) = v + 1 from hb_bs_y hv0 hyn, show hb_bsF (hs_C S j) kw (v + 1) = hb_fw (hs_C S j) kw (v + 1) by (show hb_fw (hs_C S j) kw (hb_bs (hs_C S j) kw v) = _; rw [hb_bs_y hv0 hyn])]; rfl))

set_option maxHeartbeats 4000000 in
set_option maxRecDepth 100000 in
theorem m_X5_digestPiece_k (l : Launch) (Z : hw_Z) (M : hw_M) (ad : hp_ad) (S : hs_S) (T : hp_T) (b1 : Nat → Prop) (j : Nat) (dd : Int64) (hP : hp_ok Z b1 M ad S T) (hB : hs_b S) (hj : j < hs_np S) : Met l yX5_digestPiece (hw_m yX5_digestPiece cX5_digestPiece 8 (some .long)) ({ frames := 10, cells := 0, slots := 0, locals := 225 } : Room) (va_Pc [.ref (ad 0 0), .long dd, .int (nI j)] (hw_P Z M)) (hw_Ql Z (hq_T Z b1 M ad S (hd_piece S j dd))) 0 0 (hw_A Z) := by
  refine hw_ofl (by decide +kernel) rfl (Nat.le_of_ble_eq_true rfl) ?_
  intro p e s m below meth c ls Q hx hb hml hown hts hk hnm hI hl hret
  have hnp := hB.np
  have hnw := hB.nw
  have e0_0hP : M (ad 0 0) = hw_ob 6 [.ref (ad 0 1), .ref (ad 0 2), .ref (ad 0 3), .int (nI (hs_np S)), .int (nI (hs_nw S)), .int (hs_G S 0), .int (hs_G S 1), .ref (ad 0 4), .ref (ad 0 8)] := hP.m 0 0 (by decide)
  refine lv_lload_n hx hb dX5_digestPiece_0 rfl (lv_at hl 1 rfl) ?_
  refine lv_lstore (lv' := [(4, .long dd), (0, .ref (ad 0 0)), (1, .long dd), (3, .int (nI j))]) hx hb dX5_digestPiece_1 hl (by decide) rfl (fun ls hl => ?_)
  refine lv_iconst (v := nI 0) hx hb dX5_digestPiece_3 (by decide) ?_
  refine lv_istore (lv' := [(6, .int (nI 0)), (4, .long dd), (0, .ref (ad 0 0)), (1, .long dd), (3, .int (nI j))]) hx hb dX5_digestPiece_4 hl (by decide) rfl (fun ls hl => ?_)
  suffices LP6 : ∀ v, v ≤ 15 → ∀ (H : Heap) (locs : List Loc) (ls : Array Slot), hw_iv Z s (M) H locs → lv_has ls 8 [(4, .long (hd_f (fun w => (hs_op S j w).toInt64) v dd)), (6, .int (nI v)), (0, .ref (ad 0 0)), (3, .int (nI j))] → W p l e ({ frames := 10, cells := 0, slots := 0, locals := 225 } : Room) s m ([.ref (ad 0 0), .long dd, .int (nI j)] : List Value).toArray below meth c H locs 0 0 Q (F0 m 6 ls []) from LP6 0 (by omega) _ _ _ hI (lv_sub hl [1, 0, 2, 4] rfl)
  refine hw_loop ?_ (fun v hi6 ih6 => ?_)
  · intro H locs ls hI hl
    refine lv_iload hx hb dX5_digestPiece_6 (lv_at hl 1 rfl) ?_
    refine lv_bipush (v := nI 15) hx hb dX5_digestPiece_8 (by decide) ?_
    refine lv_icmp_ge (tgt := 36) hx hb dX5_digestPiece_10 (by decide) (fun _ => ?_) (fun hc => absurd (Int32.le_refl _) hc)
    refine lv_lload hx hb dX5_digestPiece_36 (lv_at hl 0 rfl) ?_
    refine lv_ldc2 (v := 31) hx hb hown (hts _ (hw_win (w := .constantLong RX5 343 (31)) (by decide +kernel) (by decide +kernel))) dX5_digestPiece_38 ?_
    refine lv_lmul hx hb dX5_digestPiece_41 ?_
    refine lv_aload_n hx hb dX5_digestPiece_42 rfl (lv_at hl 2 rfl) ?_
    refine lv_iload_n hx hb dX5_digestPiece_43 rfl (lv_at hl 3 rfl) ?_
    refine lv_iconst (v := nI 1) hx hb dX5_digestPiece_44 (by decide) ?_
    refine hw_cd hI (hw_rV hx hb hml hown hts hk hI (m_X5_measure_k l Z M ad S T b1 j 1 hP hB hj (by decide)) cv_X5_365 e0_0hP rfl rfl ⟨rfl, rfl⟩ ⟨(Nat.le_of_ble_eq_true rfl), (Nat.le_of_ble_eq_true rfl)⟩ rfl hl.1 rfl (Nat.le_of_ble_eq_true rfl) ⟨(Nat.le_of_ble_eq_true rfl), (Nat.le_of_ble_eq_true rfl)⟩ dX5_digestPiece_45) (fun r45 M45 H locs hR hI => ?_)
    obtain ⟨rfl, rfl⟩ := hR
    refine lv_ldc2d (v := 4620693217682128896) hx hb hown (hts _ (hw_win (w := .constantDouble RX5 368 4620693217682128896) (by decide +kernel) (by decide +kernel))) dX5_digestPiece_48 ?_
    refine lv_dmul hx hb dX5_digestPiece_51 (hf_n (hf_mul (hB.U (i := j) (by omega)) hf_8)) ?_
    refine lv_d2l hx hb dX5_digestPiece_52 ?_
    refine lv_ladd hx hb dX5_digestPiece_53 ?_
    refine lv_lstore (lv' := [(4, .long (((hd_f (fun w => (hs_op S j w).toInt64) 15 dd) * 31) + (FP.d2l (FP.dmul (hs_me S j 1) 4620693217682128896)))), (6, .int (nI 15)), (0, .ref (ad 0 0)), (3, .int (nI j))]) hx hb dX5_digestPiece_54 hl (by decide) rfl (fun ls hl => ?_)
    refine lv_lload hx hb dX5_digestPiece_56 (lv_at hl 0 rfl) ?_
    refine lv_ldc2 (v := 31) hx hb hown (hts _ (hw_win (w := .constantLong RX5 343 (31)) (by decide +kernel) (by decide +kernel))) dX5_digestPiece_58 ?_
    refine lv_lmul hx hb dX5_digestPiece_61 ?_
    refine lv_aload_n hx hb dX5_digestPiece_62 rfl (lv_at hl 2 rfl) ?_
    refine lv_iload_n hx hb dX5_digestPiece_63 rfl (lv_at hl 3 rfl) ?_
    refine hw_ci hI (hw_rV hx hb hml hown hts hk hI (m_X5_bestWay_k l Z M ad S T b1 j hP hB hj) cv_X5_370 e0_0hP rfl rfl ⟨rfl, rfl⟩ ⟨(Nat.le_of_ble_eq_true rfl), (Nat.le_of_ble_eq_true rfl)⟩ rfl hl.1 rfl (Nat.le_of_ble_eq_true rfl) ⟨(Nat.le_of_ble_eq_true rfl), (Nat.le_of_ble_eq_true rfl)⟩ dX5_digestPiece_64) (fun r64 M64 H locs hR hI => ?_)
    obtain ⟨rfl, ⟨T64, hP64⟩, hF64⟩ := hR
    have hG64 := hF64
    have e0_0hP64 : M64 (ad 0 0) = hw_ob 6 [.ref (ad 0 1), .ref (ad 0 2), .ref (ad 0 3), .int (nI (hs_np S)), .int (nI (hs_nw S)), .int (hs_G S 0), .int (hs_G S 1), .ref (ad 0 4), .ref (ad 0 8)] := hP64.m 0 0 (by decide)
    refine lv_i2l (v := (nI (hb_bw (hs_C S j) 5)).toInt64) hx hb dX5_digestPiece_67 rfl ?_
    refine lv_ladd hx hb dX5_digestPiece_68 ?_
    refine lv_lstore (lv' := [(4, .long (((((hd_f (fun w => (hs_op S j w).toInt64) 15 dd) * 31) + (FP.d2l (FP.dmul (hs_me S j 1) 4620693217682128896))) * 31) + ((nI (hb_bw (hs_C S j) 5)).toInt64))), (6, .int (nI 15)), (0, .ref (ad 0 0)), (3, .int (nI j))]) hx hb dX5_digestPiece_69 hl (by decide) rfl (fun ls hl => ?_)
    refine lv_lload hx hb dX5_digestPiece_71 (lv_at hl 0 rfl) ?_
    refine lv_ldc2 (v := 31) hx hb hown (hts _ (hw_win (w := .constantLong RX5 343 (31)) (by decide +kernel) (by decide +kernel))) dX5_digestPiece_73 ?_
    refine lv_lmul hx hb dX5_digestPiece_76 ?_
    refine lv_aload_n hx hb dX5_digestPiece_77 rfl (lv_at hl 2 rfl) ?_
    refine lv_iload_n hx hb dX5_digestPiece_78 rfl (lv_at hl 3 rfl) ?_
    refine lv_sipush (v := nI 200) hx hb dX5_digestPiece_79 (by decide) ?_
    refine hw_ci hI (hw_rV hx hb hml hown hts hk hI (m_X5_bestSpeed_k l Z M64 ad S T64 b1 j (nI 200) hP64 hB hj (by decide)) cv_X5_373 e0_0hP64 rfl rfl ⟨rfl, rfl⟩ ⟨(Nat.le_of_ble_eq_true rfl), (Nat.le_of_ble_eq_true rfl)⟩ rfl hl.1 rfl (Nat.le_of_ble_eq_true rfl) ⟨(Nat.le_of_ble_eq_true rfl), (Nat.le_of_ble_eq_true rfl)⟩ dX5_digestPiece_82) (fun r82 M82 H locs hR hI => ?_)
    obtain ⟨rfl, ⟨T82, hP82⟩, hF82⟩ := hR
    have hG82 : ∀ a, b1 a → M82 a = M a := fun a ha => (hF82 a ha).trans (hG64 a ha)
    have e0_0hP82 : M82 (ad 0 0) = hw_ob 6 [.ref (ad 0 1), .ref (ad 0 2), .ref (ad 0 3), .int (nI (hs_np S)), .int (nI (hs_nw S)), .int (hs_G S 0), .int (hs_G S 1), .ref (ad 0 4), .ref (ad 0 8)] := hP82.m 0 0 (by decide)
    refine lv_i2l (v := (nI (hb_bs (hs_C S j) (nI 200) 19)).toInt64) hx hb dX5_digestPiece_85 rfl ?_
    refine lv_ladd hx hb dX5_digestPiece_86 ?_
    refine lv_lstore (lv' := [(4, .long (((((((hd_f (fun w => (hs_op S j w).toInt64) 15 dd) * 31) + (FP.d2l (FP.dmul (hs_me S j 1) 4620693217682128896))) * 31) + ((nI (hb_bw (hs_C S j) 5)).toInt64)) * 31) + ((nI (hb_bs (hs_C S j) (nI 200) 19)).toInt64))), (6, .int (nI 15)), (0, .ref (ad 0 0)), (3, .int (nI j))]) hx hb dX5_digestPiece_87 hl (by decide) rfl (fun ls hl => ?_)
    refine lv_iconst (v := nI 0) hx hb dX5_digestPiece_89 (by decide) ?_
    refine lv_istore (lv' := [(6, .int (nI 0)), (4, .long (((((((hd_f (fun w => (hs_op S j w).toInt64) 15 dd) * 31) + (FP.d2l (FP.dmul (hs_me S j 1) 4620693217682128896))) * 31) + ((nI (hb_bw (hs_C S j) 5)).toInt64)) * 31) + ((nI (hb_bs (hs_C S j) (nI 200) 19)).toInt64))), (0, .ref (ad 0 0)), (3, .int (nI j))]) hx hb dX5_digestPiece_90 hl (by decide) rfl (fun ls hl => ?_)
    suffices LP92 : ∀ u, u ≤ 8 → ∀ (H : Heap) (locs : List Loc) (ls : Array Slot), hw_iv Z s (M82) H locs → lv_has ls 8 [(4, .long (hd_layer S j u (((hd_f (fun w => (hs_op S j w).toInt64) 15 dd * 31 + FP.d2l (FP.dmul (hs_me S j 1) 4620693217682128896)) * 31 + (nI (hb_bw (hs_C S j) 5)).toInt64) * 31 + (nI (hb_bs (hs_C S j) (nI 200) 19)).toInt64))), (6, .int (nI u)), (0, .ref (ad 0 0)), (3, .int (nI j))] → W p l e ({ frames := 10, cells := 0, slots := 0, locals := 225 } : Room) s m ([.ref (ad 0 0), .long dd, .int (nI j)] : List Value).toArray below meth c H locs 0 0 Q (F0 m 92 ls []) from LP92 0 (by omega) _ _ _ hI (lv_sub hl [1, 0, 2, 3] rfl)
    refine hw_loop ?_ (fun u hi92 ih92 => ?_)
    · intro H locs ls hI hl
      refine lv_iload hx hb dX5_digestPiece_92 (lv_at hl 1 rfl) ?_
      refine lv_bipush (v := nI 8) hx hb dX5_digestPiece_94 (by decide) ?_
      refine lv_icmp_ge (tgt := 138) hx hb dX5_digestPiece_96 (by decide) (fun _ => ?_) (fun hc => absurd (Int32.le_refl _) hc)
      refine lv_lload hx hb dX5_digestPiece_138 (lv_at hl 0 rfl) ?_
      exact hret hI (hq_t rfl hP82 hG82) (Nat.le_of_ble_eq_true rfl) (Nat.le_of_ble_eq_true rfl) dX5_digestPiece_140
    · intro H locs ls hI hl
      refine lv_iload hx hb dX5_digestPiece_92 (lv_at hl 1 rfl) ?_
      refine lv_bipush (v := nI 8) hx hb dX5_digestPiece_94 (by decide) ?_
      refine lv_icmp_ge (tgt := 138) hx hb dX5_digestPiece_96 (by decide) (fun hc => absurd hc (nI_ge hi92 (by decide))) (fun _ => ?_)
      refine lv_iconst (v := nI 0) hx hb dX5_digestPiece_99 (by decide) ?_
      refine lv_istore (lv' := [(7, .int (nI 0)), (4, .long (hd_layer S j u (((hd_f (fun w => (hs_op S j w).toInt64) 15 dd * 31 + FP.d2l (FP.dmul (hs_me S j 1) 4620693217682128896)) * 31 + (nI (hb_bw (hs_C S j) 5)).toInt64) * 31 + (nI (hb_bs (hs_C S j) (nI 200) 19)).toInt64))), (6, .int (nI u)), (0, .ref (ad 0 0)), (3, .int (nI j))]) hx hb dX5_digestPiece_100 hl (by decide) rfl (fun ls hl => ?_)
      suffices LP102 : ∀ v, v ≤ 3 → ∀ (H : Heap) (locs : List Loc) (ls : Array Slot), hw_iv Z s (M82) H locs → lv_has ls 8 [(4, .long (hd_f (hs_ol S j u) v (hd_layer S j u (((hd_f (fun w => (hs_op S j w).toInt64) 15 dd * 31 + FP.d2l (FP.dmul (hs_me S j 1) 4620693217682128896)) * 31 + (nI (hb_bw (hs_C S j) 5)).toInt64) * 31 + (nI (hb_bs (hs_C S j) (nI 200) 19)).toInt64)))), (7, .int (nI v)), (6, .int (nI u)), (0, .ref (ad 0 0)), (3, .int (nI j))] → W p l e ({ frames := 10, cells := 0, slots := 0, locals := 225 } : Room) s m ([.ref (ad 0 0), .long dd, .int (nI j)] : List Value).toArray below meth c H locs 0 0 Q (F0 m 102 ls []) from LP102 0 (by omega) _ _ _ hI (lv_sub hl [1, 0, 2, 3, 4] rfl)
      refine hw_loop ?_ (fun v hi102 ih102 => ?_)
      · intro H locs ls hI hl
        refine lv_iload hx hb dX5_digestPiece_102 (lv_at hl 1 rfl) ?_
        refine lv_iconst (v := nI 3) hx hb dX5_digestPiece_104 (by decide) ?_
        refine lv_icmp_ge (tgt := 132) hx hb dX5_digestPiece_105 (by decide) (fun _ => ?_) (fun hc => absurd (Int32.le_refl _) hc)
        refine lv_iinc (v := nI (u + 1)) (lv' := [(6, .int (nI (u + 1))), (4, .long (hd_f (hs_ol S j u) 3 (hd_layer S j u (((hd_f (fun w => (hs_op S j w).toInt64) 15 dd * 31 + FP.d2l (FP.dmul (hs_me S j 1) 4620693217682128896)) * 31 + (nI (hb_bw (hs_C S j) 5)).toInt64) * 31 + (nI (hb_bs (hs_C S j) (nI 200) 19)).toInt64)))), (7, .int (nI 3)), (0, .ref (ad 0 0)), (3, .int (nI j))]) hx hb dX5_digestPiece_132 hl (k := 2) rfl (hw_inc _) (by decide) rfl (fun ls hl => ?_)
        refine lv_goto (tgt := 92) hx hb dX5_digestPiece_135 (by decide) ?_
        exact ih92 _ _ _ hI (lv_sub hl [1, 0, 3, 4] rfl)
      · intro H locs ls hI hl
        refine lv_iload hx hb dX5_digestPiece_102 (lv_at hl 1 rfl) ?_
        refine lv_iconst (v := nI 3) hx hb dX5_digestPiece_104 (by decide) ?_
        refine lv_icmp_ge (tgt := 132) hx hb dX5_digestPiece_105 (by decide) (fun hc => absurd hc (nI_ge hi102 (by decide))) (fun _ => ?_)
        refine lv_lload hx hb dX5_digestPiece_108 (lv_at hl 0 rfl) ?_
        refine lv_ldc2 (v := 31) hx hb hown (hts _ (hw_win (w := .constantLong RX5 343 (31)) (by decide +kernel) (by decide +kernel))) dX5_digestPiece_110 ?_
        refine lv_lmul hx hb dX5_digestPiece_113 ?_
        refine lv_aload_n hx hb dX5_digestPiece_114 rfl (lv_at hl 3 rfl) ?_
        refine lv_iload_n hx hb dX5_digestPiece_115 rfl (lv_at hl 4 rfl) ?_
        refine lv_iload hx hb dX5_digestPiece_116 (lv_at hl 2 rfl) ?_
        refine lv_iload hx hb dX5_digestPiece_118 (lv_at hl 1 rfl) ?_
        refine hw_cl' hI (hw_rV hx hb hml hown hts hk hI (m_X5_ofLayer_k l Z M82 ad S T82 b1 j u v hP82 hB hj hi92 hi102) cv_X5_376 e0_0hP82 rfl rfl ⟨rfl, rfl⟩ ⟨(Nat.le_of_ble_eq_true rfl), (Nat.le_of_ble_eq_true rfl)⟩ rfl hl.1 rfl (Nat.le_of_ble_eq_true rfl) ⟨(Nat.le_of_ble_eq_true rfl), (Nat.le_of_ble_eq_true rfl)⟩ dX5_digestPiece_120) (fun r120 M120 H locs hR hI => ?_)
        obtain ⟨rfl, rfl⟩ := hR
        refine lv_ladd hx hb dX5_digestPiece_123 ?_
        refine lv_lstore (lv' := [(4, .long (((hd_f (hs_ol S j u) v (hd_layer S j u (((hd_f (fun w => (hs_op S j w).toInt64) 15 dd * 31 + FP.d2l (FP.dmul (hs_me S j 1) 4620693217682128896)) * 31 + (nI (hb_bw (hs_C S j) 5)).toInt64) * 31 + (nI (hb_bs (hs_C S j) (nI 200) 19)).toInt64))) * 31) + (hs_ol S j u v))), (7, .int (nI v)), (6, .int (nI u)), (0, .ref (ad 0 0)), (3, .int (nI j))]) hx hb dX5_digestPiece_124 hl (by decide) rfl (fun ls hl => ?_)
        refine lv_iinc (v := nI (v + 1)) (lv' := [(7, .int (nI (v + 1))), (4, .long (((hd_f (hs_ol S j u) v (hd_layer S j u (((hd_f (fun w => (hs_op S j w).toInt64) 15 dd * 31 + FP.d2l (FP.dmul (hs_me S j 1) 4620693217682128896)) * 31 + (nI (hb_bw (hs_C S j) 5)).toInt64) * 31 + (nI (hb_bs (hs_C S j) (nI 200) 19)).toInt64))) * 31) + (hs_ol S j u v))), (6, .int (nI u)), (0, .ref (ad 0 0)), (3, .int (nI j))]) hx hb dX5_digestPiece_126 hl (k := 1) rfl (hw_inc _) (by decide) rfl (fun ls hl => ?_)
        refine lv_goto (tgt := 102) hx hb dX5_digestPiece_129 (by decide) ?_
        exact ih102 _ _ _ hI (lv_sub hl [1, 0, 2, 3, 4] rfl)
  · intro H locs ls hI hl
    refine lv_iload hx hb dX5_digestPiece_6 (lv_at hl 1 rfl) ?_
    refine lv_bipush (v := nI 15) hx hb dX5_digestPiece_8 (by decide) ?_
    refine lv_icmp_ge (tgt := 36) hx hb dX5_digestPiece_10 (by decide) (fun hc => absurd hc (nI_ge hi6 (by decide))) (fun _ => ?_)
    refine lv_lload hx hb dX5_digestPiece_13 (lv_at hl 0 rfl) ?_
    refine lv_ldc2 (v := 31) hx hb hown (hts _ (hw_win (w := .constantLong RX5 343 (31)) (by decide +kernel) (by decide +kernel))) dX5_digestPiece_15 ?_
    refine lv_lmul hx hb dX5_digestPiece_18 ?_
    refine lv_aload_n hx hb dX5_digestPiece_19 rfl (lv_at hl 2 rfl) ?_
    refine lv_iload_n hx hb dX5_digestPiece_20 rfl (lv_at hl 3 rfl) ?_
    refine lv_iload hx hb dX5_digestPiece_21 (lv_at hl 1 rfl) ?_
    refine hw_ci hI (hw_rV hx hb hml hown hts hk hI (m_X5_ofPiece_k l Z M ad S T b1 j v hP hB hj hi6) cv_X5_362 e0_0hP rfl rfl ⟨rfl, rfl⟩ ⟨(Nat.le_of_ble_eq_true rfl), (Nat.le_of_ble_eq_true rfl)⟩ rfl hl.1 rfl (Nat.le_of_ble_eq_true rfl) ⟨(Nat.le_of_ble_eq_true rfl), (Nat.le_of_ble_eq_true rfl)⟩ dX5_digestPiece_23) (fun r23 M23 H locs hR hI => ?_)
    obtain ⟨rfl, rfl⟩ := hR
    refine lv_i2l (v := (hs_op S j v).toInt64) hx hb dX5_digestPiece_26 rfl ?_
    refine lv_ladd hx hb dX5_digestPiece_27 ?_
    refine lv_lstore (lv' := [(4, .long (((hd_f (fun w => (hs_op S j w).toInt64) v dd) * 31) + ((hs_op S j v).toInt64))), (6, .int (nI v)), (0, .ref (ad 0 0)), (3, .int (nI j))]) hx hb dX5_digestPiece_28 hl (by decide) rfl (fun ls hl => ?_)
    refine lv_iinc (v := nI (v + 1)) (lv' := [(6, .int (nI (v + 1))), (4, .long (((hd_f (fun w => (hs_op S j w).toInt64) v dd) * 31) + ((hs_op S j v).toInt64))), (0, .ref (ad 0 0)), (3, .int (nI j))]) hx hb dX5_digestPiece_30 hl (k := 1) rfl (hw_inc _) (by decide) rfl (fun ls hl => ?_)
    refine lv_goto (tgt := 6) hx hb dX5_digestPiece_33 (by decide) ?_
    exact ih6 _ _ _ hI (lv_sub hl [1, 0, 2, 3] rfl)

set_option maxHeartbeats 4000000 in
set_option maxRecDepth 100000 in
theorem m_X5_digest (l : Launch) (Z : hw_Z) (M : hw_M) (ad : hp_ad) (S : hs_S) (T : hp_T) (b1 : Nat → Prop) (hP : hp_ok Z b1 M ad S T) (hB : hs_b S) : Met l yX5_digest (hw_m yX5_digest cX5_digest 5 (some .long)) ({ frames := 11, cells := 0, slots := 0, locals := 260 } : Room) (va_Pc [.ref (ad 0 0)] (hw_P Z M)) (hw_Ql Z (hq_T Z b1 M ad S (st_digest S))) 0 0 (hw_A Z) := by
  refine hw_ofl (by decide +kernel) rfl (Nat.le_of_ble_eq_true rfl) ?_
  intro p e s m below meth c ls Q hx hb hml hown hts hk hnm hI hl hret
  have hnp := hB.np
  have hnw := hB.nw
  have e0_0hP : M (ad 0 0) = hw_ob 6 [.ref (ad 0 1), .ref (ad 0 2), .ref (ad 0 3), .int (nI (hs_np S)), .int (nI (hs_nw S)), .int (hs_G S 0), .int (hs_G S 1), .ref (ad 0 4), .ref (ad 0 8)] := hP.m 0 0 (by decide)
  refine lv_ldc2 (v := 9608) hx hb hown (hts _ (hw_win (w := .constantLong RX5 341 (9608)) (by decide +kernel) (by decide +kernel))) dX5_digest_0 ?_
  refine lv_lstore_n (lv' := [(1, .long 9608), (0, .ref (ad 0 0))]) hx hb dX5_digest_3 rfl hl (by decide) rfl (fun ls hl => ?_)
  refine lv_iconst (v := nI 0) hx hb dX5_digest_4 (by decide) ?_
  refine lv_istore_n (lv' := [(3, .int (nI 0)), (1, .long 9608), (0, .ref (ad 0 0))]) hx hb dX5_digest_5 rfl hl (by decide) rfl (fun ls hl => ?_)
  suffices LP6 : ∀ v, v ≤ 8 → ∀ (H : Heap) (locs : List Loc) (ls : Array Slot), hw_iv Z s (M) H locs → lv_has ls 5 [(1, .long (hd_f (fun w => (hs_many S w).toInt64) v 9608)), (3, .int (nI v)), (0, .ref (ad 0 0))] → W p l e ({ frames := 11, cells := 0, slots := 0, locals := 260 } : Room) s m ([.ref (ad 0 0)] : List Value).toArray below meth c H locs 0 0 Q (F0 m 6 ls []) from LP6 0 (by omega) _ _ _ hI (lv_sub hl [1, 0, 2] rfl)
  refine hw_loop ?_ (fun v hi6 ih6 => ?_)
  · intro H locs ls hI hl
    refine lv_iload_n hx hb dX5_digest_6 rfl (lv_at hl 1 rfl) ?_
    refine lv_bipush (v := nI 8) hx hb dX5_digest_7 (by decide) ?_
    refine lv_icmp_ge (tgt := 31) hx hb dX5_digest_9 (by decide) (fun _ => ?_) (fun hc => absurd (Int32.le_refl _) hc)
    refine lv_iconst (v := nI 0) hx hb dX5_digest_31 (by decide) ?_
    refine lv_istore_n (lv' := [(3, .int (nI 0)), (1, .long (hd_f (fun w => (hs_many S w).toInt64) 8 9608)), (0, .ref (ad 0 0))]) hx hb dX5_digest_32 rfl hl (by decide) rfl (fun ls hl => ?_)
    suffices LP33 : ∀ u, u ≤ hs_np S → ∀ (M1 : hw_M) (T1 : hp_T) (hP1 : hp_ok Z b1 M1 ad S T1) (hF1 : ∀ a, b1 a → M1 a = M a) (H : Heap) (locs : List Loc) (ls : Array Slot), hw_iv Z s (M1) H locs → lv_has ls 5 [(1, .long (hd_pieces S u (hd_f (fun w => (hs_many S w).toInt64) 8 9608))), (3, .int (nI u)), (0, .ref (ad 0 0))] → W p l e ({ frames := 11, cells := 0, slots := 0, locals := 260 } : Room) s m ([.ref (ad 0 0)] : List Value).toArray below meth c H locs 0 0 Q (F0 m 33 ls []) from LP33 0 (by omega) M T hP (fun _ _ => rfl) _ _ _ hI (lv_sub hl [1, 0, 2] rfl)
    refine hw_loop ?_ (fun u hi33 ih33 => ?_)
    · intro M1 T1 hP1 hF1 H locs ls hI hl
      have e0_0hP1 : M1 (ad 0 0) = hw_ob 6 [.ref (ad 0 1), .ref (ad 0 2), .ref (ad 0 3), .int (nI (hs_np S)), .int (nI (hs_nw S)), .int (hs_G S 0), .int (hs_G S 1), .ref (ad 0 4), .ref (ad 0 8)] := hP1.m 0 0 (by decide)
      refine lv_iload_n hx hb dX5_digest_33 rfl (lv_at hl 1 rfl) ?_
      refine lv_aload_n hx hb dX5_digest_34 rfl (lv_at hl 2 rfl) ?_
      refine hw_get hx hb hts hown hk hI fd_X5_46 e0_0hP1 rfl dX5_digest_35 ?_
      refine lv_icmp_ge (tgt := 54) hx hb dX5_digest_38 (by decide) (fun _ => ?_) (fun hc => absurd (Int32.le_refl _) hc)
      refine lv_iconst (v := nI 0) hx hb dX5_digest_54 (by decide) ?_
      refine lv_istore_n (lv' := [(3, .int (nI 0)), (1, .long (hd_pieces S (hs_np S) (hd_f (fun w => (hs_many S w).toInt64) 8 9608))), (0, .ref (ad 0 0))]) hx hb dX5_digest_55 rfl hl (by decide) rfl (fun ls hl => ?_)
      suffices LP56 : ∀ u, u ≤ hs_nw S → ∀ (H : Heap) (locs : List Loc) (ls : Array Slot), hw_iv Z s (M1) H locs → lv_has ls 5 [(1, .long (hd_powders S u (hd_pieces S (hs_np S) (hd_f (fun w => (hs_many S w).toInt64) 8 9608)))), (3, .int (nI u)), (0, .ref (ad 0 0))] → W p l e ({ frames := 11, cells := 0, slots := 0, locals := 260 } : Room) s m ([.ref (ad 0 0)] : List Value).toArray below meth c H locs 0 0 Q (F0 m 56 ls []) from LP56 0 (by omega) _ _ _ hI (lv_sub hl [1, 0, 2] rfl)
      refine hw_loop ?_ (fun u hi56 ih56 => ?_)
      · intro H locs ls hI hl
        refine lv_iload_n hx hb dX5_digest_56 rfl (lv_at hl 1 rfl) ?_
        refine lv_aload_n hx hb dX5_digest_57 rfl (lv_at hl 2 rfl) ?_
        refine hw_get hx hb hts hown hk hI fd_X5_103 e0_0hP1 rfl dX5_digest_58 ?_
        refine lv_icmp_ge (tgt := 113) hx hb dX5_digest_61 (by decide) (fun _ => ?_) (fun hc => absurd (Int32.le_refl _) hc)
        refine lv_iconst (v := nI 0) hx hb dX5_digest_113 (by decide) ?_
        refine lv_istore_n (lv' := [(3, .int (nI 0)), (1, .long (hd_powders S (hs_nw S) (hd_pieces S (hs_np S) (hd_f (fun w => (hs_many S w).toInt64) 8 9608)))), (0, .ref (ad 0 0))]) hx hb dX5_digest_114 rfl hl (by decide) rfl (fun ls hl => ?_)
        suffices LP115 : ∀ u, u ≤ 2 → ∀ (H : Heap) (locs : List Loc) (ls : Array Slot), hw_iv Z s (M1) H locs → lv_has ls 5 [(1, .long (hd_machines S u (hd_powders S (hs_nw S) (hd_pieces S (hs_np S) (hd_f (fun w => (hs_many S w).toInt64) 8 9608))))), (3, .int (nI u)), (0, .ref (ad 0 0))] → W p l e ({ frames := 11, cells := 0, slots := 0, locals := 260 } : Room) s m ([.ref (ad 0 0)] : List Value).toArray below meth c H locs 0 0 Q (F0 m 115 ls []) from LP115 0 (by omega) _ _ _ hI (lv_sub hl [1, 0, 2] rfl)
        refine hw_loop ?_ (fun u hi115 ih115 => ?_)
        · intro H locs ls hI hl
          refine lv_iload_n hx hb dX5_digest_115 rfl (lv_at hl 1 rfl) ?_
          refine lv_iconst (v := nI 2) hx hb dX5_digest_116 (by decide) ?_
          refine lv_icmp_ge (tgt := 156) hx hb dX5_digest_117 (by decide) (fun _ => ?_) (fun hc => absurd (Int32.le_refl _) hc)
          refine lv_lload_n hx hb dX5_digest_156 rfl (lv_at hl 0 rfl) ?_
          exact hret hI (hq_t rfl hP1 hF1) (Nat.le_of_ble_eq_true rfl) (Nat.le_of_ble_eq_true rfl) dX5_digest_157
        · intro H locs ls hI hl
          refine lv_iload_n hx hb dX5_digest_115 rfl (lv_at hl 1 rfl) ?_
          refine lv_iconst (v := nI 2) hx hb dX5_digest_116 (by decide) ?_
          refine lv_icmp_ge (tgt := 156) hx hb dX5_digest_117 (by decide) (fun hc => absurd hc (nI_ge hi115 (by decide))) (fun _ => ?_)
          refine lv_iconst (v := nI 0) hx hb dX5_digest_120 (by decide) ?_
          refine lv_istore (lv' := [(4, .int (nI 0)), (1, .long (hd_machines S u (hd_powders S (hs_nw S) (hd_pieces S (hs_np S) (hd_f (fun w => (hs_many S w).toInt64) 8 9608))))), (3, .int (nI u)), (0, .ref (ad 0 0))]) hx hb dX5_digest_121 hl (by decide) rfl (fun ls hl => ?_)
          suffices LP123 : ∀ v, v ≤ 5 → ∀ (H : Heap) (locs : List Loc) (ls : Array Slot), hw_iv Z s (M1) H locs → lv_has ls 5 [(1, .long (hd_f (fun w => (hs_om S u w).toInt64) v (hd_machines S u (hd_powders S (hs_nw S) (hd_pieces S (hs_np S) (hd_f (fun w => (hs_many S w).toInt64) 8 9608)))))), (4, .int (nI v)), (3, .int (nI u)), (0, .ref (ad 0 0))] → W p l e ({ frames := 11, cells := 0, slots := 0, locals := 260 } : Room) s m ([.ref (ad 0 0)] : List Value).toArray below meth c H locs 0 0 Q (F0 m 123 ls []) from LP123 0 (by omega) _ _ _ hI (lv_sub hl [1, 0, 2, 3] rfl)
          refine hw_loop ?_ (fun v hi123 ih123 => ?_)
          · intro H locs ls hI hl
            refine lv_iload hx hb dX5_digest_123 (lv_at hl 1 rfl) ?_
            refine lv_iconst (v := nI 5) hx hb dX5_digest_125 (by decide) ?_
            refine lv_icmp_ge (tgt := 150) hx hb dX5_digest_126 (by decide) (fun _ => ?_) (fun hc => absurd (Int32.le_refl _) hc)
            refine lv_iinc (v := nI (u + 1)) (lv' := [(3, .int (nI (u + 1))), (1, .long (hd_f (fun w => (hs_om S u w).toInt64) 5 (hd_machines S u (hd_powders S (hs_nw S) (hd_pieces S (hs_np S) (hd_f (fun w => (hs_many S w).toInt64) 8 9608)))))), (4, .int (nI 5)), (0, .ref (ad 0 0))]) hx hb dX5_digest_150 hl (k := 2) rfl (hw_inc _) (by decide) rfl (fun ls hl => ?_)
            refine lv_goto (tgt := 115) hx hb dX5_digest_153 (by decide) ?_
            exact ih115 _ _ _ hI (lv_sub hl [1, 0, 3] rfl)
          · intro H locs ls hI hl
            refine lv_iload hx hb dX5_digest_123 (lv_at hl 1 rfl) ?_
            refine lv_iconst (v := nI 5) hx hb dX5_digest_125 (by decide) ?_
            refine lv_icmp_ge (tgt := 150) hx hb dX5_digest_126 (by decide) (fun hc => absurd hc (nI_ge hi123 (by decide))) (fun _ => ?_)
            refine lv_lload_n hx hb dX5_digest_129 rfl (lv_at hl 0 rfl) ?_
            refine lv_ldc2 (v := 31) hx hb hown (hts _ (hw_win (w := .constantLong RX5 343 (31)) (by decide +kernel) (by decide +kernel))) dX5_digest_130 ?_
            refine lv_lmul hx hb dX5_digest_133 ?_
            refine lv_aload_n hx hb dX5_digest_134 rfl (lv_at hl 3 rfl) ?_
            refine lv_iload_n hx hb dX5_digest_135 rfl (lv_at hl 2 rfl) ?_
            refine lv_iload hx hb dX5_digest_136 (lv_at hl 1 rfl) ?_
            refine hw_ci hI (hw_rV hx hb hml hown hts hk hI (m_X5_ofMachine_k l Z M1 ad S T1 b1 u v hP1 hB hi115 hi123) cv_X5_359 e0_0hP1 rfl rfl ⟨rfl, rfl⟩ ⟨(Nat.le_of_ble_eq_true rfl), (Nat.le_of_ble_eq_true rfl)⟩ rfl hl.1 rfl (Nat.le_of_ble_eq_true rfl) ⟨(Nat.le_of_ble_eq_true rfl), (Nat.le_of_ble_eq_true rfl)⟩ dX5_digest_138) (fun r138 M138 H locs hR hI => ?_)
            obtain ⟨rfl, rfl⟩ := hR
            refine lv_i2l (v := (hs_om S u v).toInt64) hx hb dX5_digest_141 rfl ?_
            refine lv_ladd hx hb dX5_digest_142 ?_
            refine lv_lstore_n (lv' := [(1, .long (((hd_f (fun w => (hs_om S u w).toInt64) v (hd_machines S u (hd_powders S (hs_nw S) (hd_pieces S (hs_np S) (hd_f (fun w => (hs_many S w).toInt64) 8 9608))))) * 31) + ((hs_om S u v).toInt64))), (4, .int (nI v)), (3, .int (nI u)), (0, .ref (ad 0 0))]) hx hb dX5_digest_143 rfl hl (by decide) rfl (fun ls hl => ?_)
            refine lv_iinc (v := nI (v + 1)) (lv' := [(4, .int (nI (v + 1))), (1, .long (((hd_f (fun w => (hs_om S u w).toInt64) v (hd_machines S u (hd_powders S (hs_nw S) (hd_pieces S (hs_np S) (hd_f (fun w => (hs_many S w).toInt64) 8 9608))))) * 31) + ((hs_om S u v).toInt64))), (3, .int (nI u)), (0, .ref (ad 0 0))]) hx hb dX5_digest_144 hl (k := 1) rfl (hw_inc _) (by decide) rfl (fun ls hl => ?_)
            refine lv_goto (tgt := 123) hx hb dX5_digest_147 (by decide) ?_
            exact ih123 _ _ _ hI (lv_sub hl [1, 0, 2, 3] rfl)
      · intro H locs ls hI hl
        refine lv_iload_n hx hb dX5_digest_56 rfl (lv_at hl 1 rfl) ?_
        refine lv_aload_n hx hb dX5_digest_57 rfl (lv_at hl 2 rfl) ?_
        refine hw_get hx hb hts hown hk hI fd_X5_103 e0_0hP1 rfl dX5_digest_58 ?_
        refine lv_icmp_ge (tgt := 113) hx hb dX5_digest_61 (by decide) (fun hc => absurd hc (nI_ge hi56 (by omega))) (fun _ => ?_)
        refine lv_iconst (v := nI 0) hx hb dX5_digest_64 (by decide) ?_
        refine lv_istore (lv' := [(4, .int (nI 0)), (1, .long (hd_powders S u (hd_pieces S (hs_np S) (hd_f (fun w => (hs_many S w).toInt64) 8 9608)))), (3, .int (nI u)), (0, .ref (ad 0 0))]) hx hb dX5_digest_65 hl (by decide) rfl (fun ls hl => ?_)
        suffices LP67 : ∀ v, v ≤ 5 → ∀ (H : Heap) (locs : List Loc) (ls : Array Slot), hw_iv Z s (M1) H locs → lv_has ls 5 [(1, .long (hd_f (fun w => (hs_V S u w).toInt64) v (hd_powders S u (hd_pieces S (hs_np S) (hd_f (fun w => (hs_many S w).toInt64) 8 9608))))), (4, .int (nI v)), (3, .int (nI u)), (0, .ref (ad 0 0))] → W p l e ({ frames := 11, cells := 0, slots := 0, locals := 260 } : Room) s m ([.ref (ad 0 0)] : List Value).toArray below meth c H locs 0 0 Q (F0 m 67 ls []) from LP67 0 (by omega) _ _ _ hI (lv_sub hl [1, 0, 2, 3] rfl)
        refine hw_loop ?_ (fun v hi67 ih67 => ?_)
        · intro H locs ls hI hl
          refine lv_iload hx hb dX5_digest_67 (lv_at hl 1 rfl) ?_
          refine lv_iconst (v := nI 5) hx hb dX5_digest_69 (by decide) ?_
          refine lv_icmp_ge (tgt := 94) hx hb dX5_digest_70 (by decide) (fun _ => ?_) (fun hc => absurd (Int32.le_refl _) hc)
          refine lv_lload_n hx hb dX5_digest_94 rfl (lv_at hl 0 rfl) ?_
          refine lv_ldc2 (v := 31) hx hb hown (hts _ (hw_win (w := .constantLong RX5 343 (31)) (by decide +kernel) (by decide +kernel))) dX5_digest_95 ?_
          refine lv_lmul hx hb dX5_digest_98 ?_
          refine lv_aload_n hx hb dX5_digest_99 rfl (lv_at hl 3 rfl) ?_
          refine lv_iload_n hx hb dX5_digest_100 rfl (lv_at hl 2 rfl) ?_
          refine hw_ci hI (hw_rV hx hb hml hown hts hk hI (m_X5_recall_k l Z M1 ad S T1 b1 u hP1 hB hi56) cv_X5_356 e0_0hP1 rfl rfl ⟨rfl, rfl⟩ ⟨(Nat.le_of_ble_eq_true rfl), (Nat.le_of_ble_eq_true rfl)⟩ rfl hl.1 rfl (Nat.le_of_ble_eq_true rfl) ⟨(Nat.le_of_ble_eq_true rfl), (Nat.le_of_ble_eq_true rfl)⟩ dX5_digest_101) (fun r101 M101 H locs hR hI => ?_)
          obtain ⟨rfl, rfl⟩ := hR
          refine lv_i2l (v := (hs_re S u (hs_np S)).toInt64) hx hb dX5_digest_104 rfl ?_
          refine lv_ladd hx hb dX5_digest_105 ?_
          refine lv_lstore_n (lv' := [(1, .long (((hd_f (fun w => (hs_V S u w).toInt64) 5 (hd_powders S u (hd_pieces S (hs_np S) (hd_f (fun w => (hs_many S w).toInt64) 8 9608)))) * 31) + ((hs_re S u (hs_np S)).toInt64))), (4, .int (nI 5)), (3, .int (nI u)), (0, .ref (ad 0 0))]) hx hb dX5_digest_106 rfl hl (by decide) rfl (fun ls hl => ?_)
          refine lv_iinc (v := nI (u + 1)) (lv' := [(3, .int (nI (u + 1))), (1, .long (((hd_f (fun w => (hs_V S u w).toInt64) 5 (hd_powders S u (hd_pieces S (hs_np S) (hd_f (fun w => (hs_many S w).toInt64) 8 9608)))) * 31) + ((hs_re S u (hs_np S)).toInt64))), (4, .int (nI 5)), (0, .ref (ad 0 0))]) hx hb dX5_digest_107 hl (k := 2) rfl (hw_inc _) (by decide) rfl (fun ls hl => ?_)
          refine lv_goto (tgt := 56) hx hb dX5_digest_110 (by decide) ?_
          exact ih56 _ _ _ hI (lv_sub hl [1, 0, 3] rfl)
        · intro H locs ls hI hl
          refine lv_iload hx hb dX5_digest_67 (lv_at hl 1 rfl) ?_
          refine lv_iconst (v := nI 5) hx hb dX5_digest_69 (by decide) ?_
          refine lv_icmp_ge (tgt := 94) hx hb dX5_digest_70 (by decide) (fun hc => absurd hc (nI_ge hi67 (by decide))) (fun _ => ?_)
          refine lv_lload_n hx hb dX5_digest_73 rfl (lv_at hl 0 rfl) ?_
          refine lv_ldc2 (v := 31) hx hb hown (hts _ (hw_win (w := .constantLong RX5 343 (31)) (by decide +kernel) (by decide +kernel))) dX5_digest_74 ?_
          refine lv_lmul hx hb dX5_digest_77 ?_
          refine lv_aload_n hx hb dX5_digest_78 rfl (lv_at hl 3 rfl) ?_
          refine lv_iload_n hx hb dX5_digest_79 rfl (lv_at hl 2 rfl) ?_
          refine lv_iload hx hb dX5_digest_80 (lv_at hl 1 rfl) ?_
          refine hw_ci hI (hw_rV hx hb hml hown hts hk hI (m_X5_ofPowder_k l Z M1 ad S T1 b1 u v hP1 hB hi56 hi67) cv_X5_352 e0_0hP1 rfl rfl ⟨rfl, rfl⟩ ⟨(Nat.le_of_ble_eq_true rfl), (Nat.le_of_ble_eq_true rfl)⟩ rfl hl.1 rfl (Nat.le_of_ble_eq_true rfl) ⟨(Nat.le_of_ble_eq_true rfl), (Nat.le_of_ble_eq_true rfl)⟩ dX5_digest_82) (fun r82 M82 H locs hR hI => ?_)
          obtain ⟨rfl, rfl⟩ := hR
          refine lv_i2l (v := (hs_V S u v).toInt64) hx hb dX5_digest_85 rfl ?_
          refine lv_ladd hx hb dX5_digest_86 ?_
          refine lv_lstore_n (lv' := [(1, .long (((hd_f (fun w => (hs_V S u w).toInt64) v (hd_powders S u (hd_pieces S (hs_np S) (hd_f (fun w => (hs_many S w).toInt64) 8 9608)))) * 31) + ((hs_V S u v).toInt64))), (4, .int (nI v)), (3, .int (nI u)), (0, .ref (ad 0 0))]) hx hb dX5_digest_87 rfl hl (by decide) rfl (fun ls hl => ?_)
          refine lv_iinc (v := nI (v + 1)) (lv' := [(4, .int (nI (v + 1))), (1, .long (((hd_f (fun w => (hs_V S u w).toInt64) v (hd_powders S u (hd_pieces S (hs_np S) (hd_f (fun w => (hs_many S w).toInt64) 8 9608)))) * 31) + ((hs_V S u v).toInt64))), (3, .int (nI u)), (0, .ref (ad 0 0))]) hx hb dX5_digest_88 hl (k := 1) rfl (hw_inc _) (by decide) rfl (fun ls hl => ?_)
          refine lv_goto (tgt := 67) hx hb dX5_digest_91 (by decide) ?_
          exact ih67 _ _ _ hI (lv_sub hl [1, 0, 2, 3] rfl)
    · intro M1 T1 hP1 hF1 H locs ls hI hl
      have e0_0hP1 : M1 (ad 0 0) = hw_ob 6 [.ref (ad 0 1), .ref (ad 0 2), .ref (ad 0 3), .int (nI (hs_np S)), .int (nI (hs_nw S)), .int (hs_G S 0), .int (hs_G S 1), .ref (ad 0 4), .ref (ad 0 8)] := hP1.m 0 0 (by decide)
      refine lv_iload_n hx hb dX5_digest_33 rfl (lv_at hl 1 rfl) ?_
      refine lv_aload_n hx hb dX5_digest_34 rfl (lv_at hl 2 rfl) ?_
      refine hw_get hx hb hts hown hk hI fd_X5_46 e0_0hP1 rfl dX5_digest_35 ?_
      refine lv_icmp_ge (tgt := 54) hx hb dX5_digest_38 (by decide) (fun hc => absurd hc (nI_ge hi33 (by omega))) (fun _ => ?_)
      refine lv_aload_n hx hb dX5_digest_41 rfl (lv_at hl 2 rfl) ?_
      refine lv_lload_n hx hb dX5_digest_42 rfl (lv_at hl 0 rfl) ?_
      refine lv_iload_n hx hb dX5_digest_43 rfl (lv_at hl 1 rfl) ?_
      refine hw_cl' hI (hw_rV hx hb hml hown hts hk hI (m_X5_digestPiece_k l Z M1 ad S T1 b1 u (hd_pieces S u (hd_f (fun w => (hs_many S w).toInt64) 8 9608)) hP1 hB hi33) cv_X5_348 e0_0hP1 rfl rfl ⟨rfl, rfl⟩ ⟨(Nat.le_of_ble_eq_true rfl), (Nat.le_of_ble_eq_true rfl)⟩ rfl hl.1 rfl (Nat.le_of_ble_eq_true rfl) ⟨(Nat.le_of_ble_eq_true rfl), (Nat.le_of_ble_eq_true rfl)⟩ dX5_digest_44) (fun r44 M44 H locs hR hI => ?_)
      obtain ⟨rfl, ⟨T44, hP44⟩, hF44⟩ := hR
      have hG44 : ∀ a, b1 a → M44 a = M a := fun a ha => (hF44 a ha).trans (hF1 a ha)
      have e0_0hP44 : M44 (ad 0 0) = hw_ob 6 [.ref (ad 0 1), .ref (ad 0 2), .ref (ad 0 3), .int (nI (hs_np S)), .int (nI (hs_nw S)), .int (hs_G S 0), .int (hs_G S 1), .ref (ad 0 4), .ref (ad 0 8)] := hP44.m 0 0 (by decide)
      refine lv_lstore_n (lv' := [(1, .long (hd_piece S u (hd_pieces S u (hd_f (fun w => (hs_many S w).toInt64) 8 9608)))), (3, .int (nI u)), (0, .ref (ad 0 0))]) hx hb dX5_digest_47 rfl hl (by decide) rfl (fun ls hl => ?_)
      refine lv_iinc (v := nI (u + 1)) (lv' := [(3, .int (nI (u + 1))), (1, .long (hd_piece S u (hd_pieces S u (hd_f (fun w => (hs_many S w).toInt64) 8 9608)))), (0, .ref (ad 0 0))]) hx hb dX5_digest_48 hl (k := 1) rfl (hw_inc _) (by decide) rfl (fun ls hl => ?_)
      refine lv_goto (tgt := 33) hx hb dX5_digest_51 (by decide) ?_
      exact ih33 _ _ hP44 hG44 _ _ _ hI (lv_sub hl [1, 0, 2] rfl)
  · intro H locs ls hI hl
    refine lv_iload_n hx hb dX5_digest_6 rfl (lv_at hl 1 rfl) ?_
    refine lv_bipush (v := nI 8) hx hb dX5_digest_7 (by decide) ?_
    refine lv_icmp_ge (tgt := 31) hx hb dX5_digest_9 (by decide) (fun hc => absurd hc (nI_ge hi6 (by decide))) (fun _ => ?_)
    refine lv_lload_n hx hb dX5_digest_12 rfl (lv_at hl 0 rfl) ?_
    refine lv_ldc2 (v := 31) hx hb hown (hts _ (hw_win (w := .constantLong RX5 343 (31)) (by decide +kernel) (by decide +kernel))) dX5_digest_13 ?_
    refine lv_lmul hx hb dX5_digest_16 ?_
    refine lv_aload_n hx hb dX5_digest_17 rfl (lv_at hl 2 rfl) ?_
    refine lv_iload_n hx hb dX5_digest_18 rfl (lv_at hl 1 rfl) ?_
    refine hw_ci hI (hw_rV hx hb hml hown hts hk hI (m_X5_many_k l Z M ad S T b1 v hP hB hi6) cv_X5_345 e0_0hP rfl rfl ⟨rfl, rfl⟩ ⟨(Nat.le_of_ble_eq_true rfl), (Nat.le_of_ble_eq_true rfl)⟩ rfl hl.1 rfl (Nat.le_of_ble_eq_true rfl) ⟨(Nat.le_of_ble_eq_true rfl), (Nat.le_of_ble_eq_true rfl)⟩ dX5_digest_19) (fun r19 M19 H locs hR hI => ?_)
    obtain ⟨rfl, rfl⟩ := hR
    refine lv_i2l (v := (hs_many S v).toInt64) hx hb dX5_digest_22 rfl ?_
    refine lv_ladd hx hb dX5_digest_23 ?_
    refine lv_lstore_n (lv' := [(1, .long (((hd_f (fun w => (hs_many S w).toInt64) v 9608) * 31) + ((hs_many S v).toInt64))), (3, .int (nI v)), (0, .ref (ad 0 0))]) hx hb dX5_digest_24 rfl hl (by decide) rfl (fun ls hl => ?_)
    refine lv_iinc (v := nI (v + 1)) (lv' := [(3, .int (nI (v + 1))), (1, .long (((hd_f (fun w => (hs_many S w).toInt64) v 9608) * 31) + ((hs_many S v).toInt64))), (0, .ref (ad 0 0))]) hx hb dX5_digest_25 hl (k := 1) rfl (hw_inc _) (by decide) rfl (fun ls hl => ?_)
    refine lv_goto (tgt := 6) hx hb dX5_digest_28 (by decide) ?_
    exact ih6 _ _ _ hI (lv_sub hl [1, 0, 2] rfl)
