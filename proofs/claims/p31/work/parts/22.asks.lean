theorem cv_X5_255 : hw_CV RX5 255 yX4_cellCount cX4_cellCount 1 (some .int) 0 := ⟨cb_X4_cellCount _ _, (hw_win (w := .methodLink RX5 255 yX4_cellCount) (by decide +kernel) (by decide +kernel)), (hw_win (w := .instanceMethod yX4_cellCount) (by decide +kernel) (by decide +kernel)), (hw_win (w := .selects yX4_cellCount.cls yX4_cellCount yX4_cellCount) (by decide +kernel) (by decide +kernel))⟩
theorem cb_X4_hangingCount (own : String) (index : Nat) : hw_CB own index yX4_hangingCount cX4_hangingCount 1 (some .int) 0 := ⟨⟨by decide +kernel, by decide +kernel, by decide +kernel⟩, (hw_win (w := .code yX4_hangingCount cX4_hangingCount 1 (some .int)) (by decide +kernel) (by decide +kernel)), (hw_win (w := .initialized yX4_hangingCount.cls) (by decide +kernel) (by decide +kernel))⟩
theorem cv_X5_258 : hw_CV RX5 258 yX4_hangingCount cX4_hangingCount 1 (some .int) 0 := ⟨cb_X4_hangingCount _ _, (hw_win (w := .methodLink RX5 258 yX4_hangingCount) (by decide +kernel) (by decide +kernel)), (hw_win (w := .instanceMethod yX4_hangingCount) (by decide +kernel) (by decide +kernel)), (hw_win (w := .selects yX4_hangingCount.cls yX4_hangingCount yX4_hangingCount) (by decide +kernel) (by decide +kernel))⟩
theorem cb_X4_islandCount (own : String) (index : Nat) : hw_CB own index yX4_islandCount cX4_islandCount 3 (some .int) 0 := ⟨⟨by decide +kernel, by decide +kernel, by decide +kernel⟩, (hw_win (w := .code yX4_islandCount cX4_islandCount 3 (some .int)) (by decide +kernel) (by decide +kernel)), (hw_win (w := .initialized yX4_islandCount.cls) (by decide +kernel) (by decide +kernel))⟩
theorem cv_X5_261 : hw_CV RX5 261 yX4_islandCount cX4_islandCount 3 (some .int) 0 := ⟨cb_X4_islandCount _ _, (hw_win (w := .methodLink RX5 261 yX4_islandCount) (by decide +kernel) (by decide +kernel)), (hw_win (w := .instanceMethod yX4_islandCount) (by decide +kernel) (by decide +kernel)), (hw_win (w := .selects yX4_islandCount.cls yX4_islandCount yX4_islandCount) (by decide +kernel) (by decide +kernel))⟩
theorem fd_X5_207 : hw_FD RX5 207 3 4 := ⟨RX2, TX2, 13, "MeltPool$Piece", rfl, by decide, iw_X2, (hw_win (w := .fieldLink RX5 207 "MeltPool$Piece" (TX2 4).2.1 (TX2 4).2.2.1) (by decide +kernel) (by decide +kernel)), Or.inl rfl⟩
theorem fd_X5_198 : hw_FD RX5 198 3 2 := ⟨RX2, TX2, 13, "MeltPool$Piece", rfl, by decide, iw_X2, (hw_win (w := .fieldLink RX5 198 "MeltPool$Piece" (TX2 2).2.1 (TX2 2).2.2.1) (by decide +kernel) (by decide +kernel)), Or.inl rfl⟩
theorem fd_X5_229 : hw_FD RX5 229 2 1 := ⟨RX1, TX1, 3, "MeltPool$Melt", rfl, by decide, iw_X1, (hw_win (w := .fieldLink RX5 229 "MeltPool$Melt" (TX1 1).2.1 (TX1 1).2.2.1) (by decide +kernel) (by decide +kernel)), Or.inl rfl⟩
theorem fd_X5_267 : hw_FD RX5 267 2 2 := ⟨RX1, TX1, 3, "MeltPool$Melt", rfl, by decide, iw_X1, (hw_win (w := .fieldLink RX5 267 "MeltPool$Melt" (TX1 2).2.1 (TX1 2).2.2.1) (by decide +kernel) (by decide +kernel)), Or.inl rfl⟩
theorem fd_X5_204 : hw_FD RX5 204 3 6 := ⟨RX2, TX2, 13, "MeltPool$Piece", rfl, by decide, iw_X2, (hw_win (w := .fieldLink RX5 204 "MeltPool$Piece" (TX2 6).2.1 (TX2 6).2.2.1) (by decide +kernel) (by decide +kernel)), Or.inl rfl⟩
theorem fd_X5_239 : hw_FD RX5 239 3 7 := ⟨RX2, TX2, 13, "MeltPool$Piece", rfl, by decide, iw_X2, (hw_win (w := .fieldLink RX5 239 "MeltPool$Piece" (TX2 7).2.1 (TX2 7).2.2.1) (by decide +kernel) (by decide +kernel)), Or.inl rfl⟩
theorem fd_X5_270 : hw_FD RX5 270 1 0 := ⟨RX0, TX0, 7, "MeltPool$Machine", rfl, by decide, iw_X0, (hw_win (w := .fieldLink RX5 270 "MeltPool$Machine" (TX0 0).2.1 (TX0 0).2.2.1) (by decide +kernel) (by decide +kernel)), Or.inl rfl⟩
theorem fd_X5_271 : hw_FD RX5 271 3 8 := ⟨RX2, TX2, 13, "MeltPool$Piece", rfl, by decide, iw_X2, (hw_win (w := .fieldLink RX5 271 "MeltPool$Piece" (TX2 8).2.1 (TX2 8).2.2.1) (by decide +kernel) (by decide +kernel)), Or.inl rfl⟩
theorem fd_X5_274 : hw_FD RX5 274 3 9 := ⟨RX2, TX2, 13, "MeltPool$Piece", rfl, by decide, iw_X2, (hw_win (w := .fieldLink RX5 274 "MeltPool$Piece" (TX2 9).2.1 (TX2 9).2.2.1) (by decide +kernel) (by decide +kernel)), Or.inl rfl⟩
theorem fd_X5_277 : hw_FD RX5 277 3 10 := ⟨RX2, TX2, 13, "MeltPool$Piece", rfl, by decide, iw_X2, (hw_win (w := .fieldLink RX5 277 "MeltPool$Piece" (TX2 10).2.1 (TX2 10).2.2.1) (by decide +kernel) (by decide +kernel)), Or.inl rfl⟩
theorem fd_X5_278 : hw_FD RX5 278 3 11 := ⟨RX2, TX2, 13, "MeltPool$Piece", rfl, by decide, iw_X2, (hw_win (w := .fieldLink RX5 278 "MeltPool$Piece" (TX2 11).2.1 (TX2 11).2.2.1) (by decide +kernel) (by decide +kernel)), Or.inl rfl⟩
theorem th_X5_96_281_100 : hw_TH RX5 96 281 100 "java/lang/IllegalArgumentException" "what is not 0 to 14" := ⟨by decide +kernel, (hw_win (w := .classLink RX5 96 "java/lang/IllegalArgumentException") (by decide +kernel) (by decide +kernel)), (hw_win (w := .initialized "java/lang/IllegalArgumentException") (by decide +kernel) (by decide +kernel)), by decide +kernel, (fun w h => hw_win ((by decide +kernel : ∀ w ∈ (vx_atS RX5 100 "java/lang/IllegalArgumentException" ["java/lang/RuntimeException", "java/lang/Exception"]).filter goodWord, w ∈ lw_tbl) w h) ((List.mem_filter.mp h).2)), by decide +kernel, by decide +kernel, by decide +kernel⟩
theorem fd_X5_295 : hw_FD RX5 295 4 4 := ⟨RX3, TX3, 6, "MeltPool$Powder", rfl, by decide, iw_X3, (hw_win (w := .fieldLink RX5 295 "MeltPool$Powder" (TX3 4).2.1 (TX3 4).2.2.1) (by decide +kernel) (by decide +kernel)), Or.inl rfl⟩
theorem th_X5_96_296_100 : hw_TH RX5 96 296 100 "java/lang/IllegalArgumentException" "what is not 0 to 4" := ⟨by decide +kernel, (hw_win (w := .classLink RX5 96 "java/lang/IllegalArgumentException") (by decide +kernel) (by decide +kernel)), (hw_win (w := .initialized "java/lang/IllegalArgumentException") (by decide +kernel) (by decide +kernel)), by decide +kernel, (fun w h => hw_win ((by decide +kernel : ∀ w ∈ (vx_atS RX5 100 "java/lang/IllegalArgumentException" ["java/lang/RuntimeException", "java/lang/Exception"]).filter goodWord, w ∈ lw_tbl) w h) ((List.mem_filter.mp h).2)), by decide +kernel, by decide +kernel, by decide +kernel⟩
theorem fd_X5_298 : hw_FD RX5 298 3 0 := ⟨RX2, TX2, 13, "MeltPool$Piece", rfl, by decide, iw_X2, (hw_win (w := .fieldLink RX5 298 "MeltPool$Piece" (TX2 0).2.1 (TX2 0).2.2.1) (by decide +kernel) (by decide +kernel)), Or.inl rfl⟩
theorem fd_X5_174 : hw_FD RX5 174 1 6 := ⟨RX0, TX0, 7, "MeltPool$Machine", rfl, by decide, iw_X0, (hw_win (w := .fieldLink RX5 174 "MeltPool$Machine" (TX0 6).2.1 (TX0 6).2.2.1) (by decide +kernel) (by decide +kernel)), Or.inl rfl⟩
theorem fd_X5_283 : hw_FD RX5 283 5 0 := ⟨RX4, TX4, 3, "MeltPool$Solid", rfl, by decide, iw_X4, (hw_win (w := .fieldLink RX5 283 "MeltPool$Solid" (TX4 0).2.1 (TX4 0).2.2.1) (by decide +kernel) (by decide +kernel)), Or.inl rfl⟩
theorem fd_X5_287 : hw_FD RX5 287 5 1 := ⟨RX4, TX4, 3, "MeltPool$Solid", rfl, by decide, iw_X4, (hw_win (w := .fieldLink RX5 287 "MeltPool$Solid" (TX4 1).2.1 (TX4 1).2.2.1) (by decide +kernel) (by decide +kernel)), Or.inl rfl⟩
theorem fd_X5_290 : hw_FD RX5 290 5 2 := ⟨RX4, TX4, 3, "MeltPool$Solid", rfl, by decide, iw_X4, (hw_win (w := .fieldLink RX5 290 "MeltPool$Solid" (TX4 2).2.1 (TX4 2).2.2.1) (by decide +kernel) (by decide +kernel)), Or.inl rfl⟩
theorem th_X5_96_293_100 : hw_TH RX5 96 293 100 "java/lang/IllegalArgumentException" "what is not 0 to 2" := ⟨by decide +kernel, (hw_win (w := .classLink RX5 96 "java/lang/IllegalArgumentException") (by decide +kernel) (by decide +kernel)), (hw_win (w := .initialized "java/lang/IllegalArgumentException") (by decide +kernel) (by decide +kernel)), by decide +kernel, (fun w h => hw_win ((by decide +kernel : ∀ w ∈ (vx_atS RX5 100 "java/lang/IllegalArgumentException" ["java/lang/RuntimeException", "java/lang/Exception"]).filter goodWord, w ∈ lw_tbl) w h) ((List.mem_filter.mp h).2)), by decide +kernel, by decide +kernel, by decide +kernel⟩
theorem cb_X2_density (own : String) (index : Nat) : hw_CB own index yX2_density cX2_density 2 (some .double) 0 := ⟨⟨by decide +kernel, by decide +kernel, by decide +kernel⟩, (hw_win (w := .code yX2_density cX2_density 2 (some .double)) (by decide +kernel) (by decide +kernel)), (hw_win (w := .initialized yX2_density.cls) (by decide +kernel) (by decide +kernel))⟩
theorem cv_X5_308 : hw_CV RX5 308 yX2_density cX2_density 2 (some .double) 0 := ⟨cb_X2_density _ _, (hw_win (w := .methodLink RX5 308 yX2_density) (by decide +kernel) (by decide +kernel)), (hw_win (w := .instanceMethod yX2_density) (by decide +kernel) (by decide +kernel)), (hw_win (w := .selects yX2_density.cls yX2_density yX2_density) (by decide +kernel) (by decide +kernel))⟩
theorem fd_X5_312 : hw_FD RX5 312 3 5 := ⟨RX2, TX2, 13, "MeltPool$Piece", rfl, by decide, iw_X2, (hw_win (w := .fieldLink RX5 312 "MeltPool$Piece" (TX2 5).2.1 (TX2 5).2.2.1) (by decide +kernel) (by decide +kernel)), Or.inl rfl⟩
theorem th_X5_96_316_100 : hw_TH RX5 96 316 100 "java/lang/IllegalArgumentException" "what is not 0 or 1" := ⟨by decide +kernel, (hw_win (w := .classLink RX5 96 "java/lang/IllegalArgumentException") (by decide +kernel) (by decide +kernel)), (hw_win (w := .initialized "java/lang/IllegalArgumentException") (by decide +kernel) (by decide +kernel)), by decide +kernel, (fun w h => hw_win ((by decide +kernel : ∀ w ∈ (vx_atS RX5 100 "java/lang/IllegalArgumentException" ["java/lang/RuntimeException", "java/lang/Exception"]).filter goodWord, w ∈ lw_tbl) w h) ((List.mem_filter.mp h).2)), by decide +kernel, by decide +kernel, by decide +kernel⟩
set_option maxHeartbeats 4000000 in
set_option maxRecDepth 100000 in
theorem m_X5_ofPiece_0 (l : Launch) (hst : l.stackTraces = false) (Z : hw_Z) (M : hw_M) (ad : hp_ad) (S : hs_S) (T : hp_T) (b1 : Nat → Prop) (ka : Int32) (hP : hp_ok Z b1 M ad S T) (hB : hs_b S) : vx_Met l yX5_ofPiece (hw_m yX5_ofPiece cX5_ofPiece 4 (some .int)) ({ frames := 9, cells := 6, slots := 36, locals := 190 } : Room) (va_Pc [.ref (ad 0 0), .int ka, .int (nI 0)] (hw_P Z M)) (hw_Qi Z (hq_N M S (st_ofPiece S ka (nI 0)))) (hw_X Z (hq_X ["java/lang/IndexOutOfBoundsException", "java/lang/IllegalArgumentException"] M S (st_ofPiece S ka (nI 0)))) 6 36 (hw_A Z) := by
  refine hw_xofi hst (by decide +kernel) rfl (Nat.le_of_ble_eq_true rfl) ?_
  intro p e s m below meth c ls Q hx hb hml hown hts hk hnm hI hl hret hxo hthr hthrW
  have hnp := hB.np
  have hnw := hB.nw
  have e0_0hP : M (ad 0 0) = hw_ob 6 [.ref (ad 0 1), .ref (ad 0 2), .ref (ad 0 3), .int (nI (hs_np S)), .int (nI (hs_nw S)), .int (hs_G S 0), .int (hs_G S 1), .ref (ad 0 4), .ref (ad 0 8)] := hP.m 0 0 (by decide)
  have e0_1hP : M (ad 0 1) = hw_ar Z 3 4 (fun j => some (ad 1 j)) := hP.m 0 1 (by decide)
  refine lv_aload_n hx hb dX5_ofPiece_0 rfl (lv_at hl 0 rfl) ?_
  refine lv_iload_n hx hb dX5_ofPiece_1 rfl (lv_at hl 1 rfl) ?_
  refine hw_xr hI hxo (hw_xV hx hb hml hown hts hk hI (m_X5_pieceAt l hst Z M (ad 0 0) (ad 0 1) (ad 0 2) (ad 0 3) (ad 0 4) (ad 0 8) (hs_np S) (hs_nw S) (hs_G S 0) (hs_G S 1) ka (ad 1) e0_0hP e0_1hP hnp) cv_X5_57 e0_0hP rfl rfl ⟨rfl, rfl⟩ ⟨(Nat.le_of_ble_eq_true rfl), (Nat.le_of_ble_eq_true rfl)⟩ rfl hl.1 rfl (Nat.le_of_ble_eq_true rfl) ⟨(Nat.le_of_ble_eq_true rfl), (Nat.le_of_ble_eq_true rfl)⟩ dX5_ofPiece_2) (hq_xc (c := 1) (fun h => by unfold st_ofPiece; exact (hq_if h ⟨rfl, rfl⟩)) ⟨by decide, rfl⟩) (Nat.le_of_ble_eq_true rfl) (Nat.le_of_ble_eq_true rfl) (fun r2 M2 H locs hR hI => ?_)
  obtain ⟨⟨hk2, rfl⟩, rfl⟩ := hR
  have hx2 := hb_okx (by omega) hk2
  have hi2 : hb_ix ka < 4 := by have := hx2.1; omega
  have e1_hb_ix_kahP : M (ad 1 (hb_ix ka)) = hw_ob 3 [.int (nI (hb_ix ka)), .ref (ad 2 (hb_ix ka)), .ref (ad 6 (hb_ix ka)), .int (hs_P S (hb_ix ka) 0), .int (nI (hs_D S (hb_ix ka))), .double (hs_U S (hb_ix ka)), .int (hs_P S (hb_ix ka) 3), hp_ref (ad 9) (hs_P S (hb_ix ka) 4), .int (hs_P S (hb_ix ka) 5), .int (hs_P S (hb_ix ka) 6), .int (hs_P S (hb_ix ka) 7), .int (hs_P S (hb_ix ka) 8), .int (hs_P S (hb_ix ka) 9)] := hP.m 1 (hb_ix ka) hi2
  have e2_hb_ix_kahP : M (ad 2 (hb_ix ka)) = hw_ob 5 [.ref (ad 3 (hb_ix ka)), .ref (ad 4 (hb_ix ka)), .ref (ad 5 (hb_ix ka))] := hP.m 2 (hb_ix ka) hi2
  have e3_hb_ix_kahP : M (ad 3 (hb_ix ka)) = hw_al Z 8 (hs_C S (hb_ix ka)) := hP.m 3 (hb_ix ka) hi2
  have e4_hb_ix_kahP : M (ad 4 (hb_ix ka)) = hw_al Z 8 (hb_hang (hs_C S (hb_ix ka))) := hP.m 4 (hb_ix ka) hi2
  have e5_hb_ix_kahP : M (ad 5 (hb_ix ka)) = hw_al Z 8 (hb_supp (hs_C S (hb_ix ka))) := hP.m 5 (hb_ix ka) hi2
  have e6_hb_ix_kahP : M (ad 6 (hb_ix ka)) = hw_ob 2 [.ref (ad 7 (hb_ix ka)), .int (hs_P S (hb_ix ka) 1), .int (hs_P S (hb_ix ka) 2)] := hP.m 6 (hb_ix ka) hi2
  refine lv_astore_n (lv' := [(3, .ref (ad 1 (hb_ix ka))), (0, .ref (ad 0 0)), (1, .int ka), (2, .int (nI 0))]) hx hb dX5_ofPiece_5 rfl hl (by decide) rfl (fun ls hl => ?_)
  refine lv_iload_n hx hb dX5_ofPiece_6 rfl (lv_at hl 3 rfl) ?_
  refine lv_tableIn (tgt := 80) hx hb dX5_ofPiece_7 (by decide) (by decide) rfl (by decide) ?_
  refine lv_aload_n hx hb dX5_ofPiece_80 rfl (lv_at hl 0 rfl) ?_
  refine hw_get hx hb hts hown hk hI fd_X5_171 e1_hb_ix_kahP rfl dX5_ofPiece_81 ?_
  exact hret hI (⟨by unfold st_ofPiece; exact (if_neg (fun q => q hk2)).trans ((if_neg (fun q => q (by decide))).trans rfl), rfl⟩) (Nat.le_of_ble_eq_true rfl) (Nat.le_of_ble_eq_true rfl) dX5_ofPiece_84

set_option maxHeartbeats 4000000 in
set_option maxRecDepth 100000 in
theorem m_X5_ofPiece_1 (l : Launch) (hst : l.stackTraces = false) (Z : hw_Z) (M : hw_M) (ad : hp_ad) (S : hs_S) (T : hp_T) (b1 : Nat → Prop) (ka : Int32) (hP : hp_ok Z b1 M ad S T) (hB : hs_b S) : vx_Met l yX5_ofPiece (hw_m yX5_ofPiece cX5_ofPiece 4 (some .int)) ({ frames := 9, cells := 6, slots := 36, locals := 190 } : Room) (va_Pc [.ref (ad 0 0), .int ka, .int (nI 1)] (hw_P Z M)) (hw_Qi Z (hq_N M S (st_ofPiece S ka (nI 1)))) (hw_X Z (hq_X ["java/lang/IndexOutOfBoundsException", "java/lang/IllegalArgumentException"] M S (st_ofPiece S ka (nI 1)))) 6 36 (hw_A Z) := by
  refine hw_xofi hst (by decide +kernel) rfl (Nat.le_of_ble_eq_true rfl) ?_
  intro p e s m below meth c ls Q hx hb hml hown hts hk hnm hI hl hret hxo hthr hthrW
  have hnp := hB.np
  have hnw := hB.nw
  have e0_0hP : M (ad 0 0) = hw_ob 6 [.ref (ad 0 1), .ref (ad 0 2), .ref (ad 0 3), .int (nI (hs_np S)), .int (nI (hs_nw S)), .int (hs_G S 0), .int (hs_G S 1), .ref (ad 0 4), .ref (ad 0 8)] := hP.m 0 0 (by decide)
  have e0_1hP : M (ad 0 1) = hw_ar Z 3 4 (fun j => some (ad 1 j)) := hP.m 0 1 (by decide)
  refine lv_aload_n hx hb dX5_ofPiece_0 rfl (lv_at hl 0 rfl) ?_
  refine lv_iload_n hx hb dX5_ofPiece_1 rfl (lv_at hl 1 rfl) ?_
  refine hw_xr hI hxo (hw_xV hx hb hml hown hts hk hI (m_X5_pieceAt l hst Z M (ad 0 0) (ad 0 1) (ad 0 2) (ad 0 3) (ad 0 4) (ad 0 8) (hs_np S) (hs_nw S) (hs_G S 0) (hs_G S 1) ka (ad 1) e0_0hP e0_1hP hnp) cv_X5_57 e0_0hP rfl rfl ⟨rfl, rfl⟩ ⟨(Nat.le_of_ble_eq_true rfl), (Nat.le_of_ble_eq_true rfl)⟩ rfl hl.1 rfl (Nat.le_of_ble_eq_true rfl) ⟨(Nat.le_of_ble_eq_true rfl), (Nat.le_of_ble_eq_true rfl)⟩ dX5_ofPiece_2) (hq_xc (c := 1) (fun h => by unfold st_ofPiece; exact (hq_if h ⟨rfl, rfl⟩)) ⟨by decide, rfl⟩) (Nat.le_of_ble_eq_true rfl) (Nat.le_of_ble_eq_true rfl) (fun r2 M2 H locs hR hI => ?_)
  obtain ⟨⟨hk2, rfl⟩, rfl⟩ := hR
  have hx2 := hb_okx (by omega) hk2
  have hi2 : hb_ix ka < 4 := by have := hx2.1; omega
  have e1_hb_ix_kahP : M (ad 1 (hb_ix ka)) = hw_ob 3 [.int (nI (hb_ix ka)), .ref (ad 2 (hb_ix ka)), .ref (ad 6 (hb_ix ka)), .int (hs_P S (hb_ix ka) 0), .int (nI (hs_D S (hb_ix ka))), .double (hs_U S (hb_ix ka)), .int (hs_P S (hb_ix ka) 3), hp_ref (ad 9) (hs_P S (hb_ix ka) 4), .int (hs_P S (hb_ix ka) 5), .int (hs_P S (hb_ix ka) 6), .int (hs_P S (hb_ix ka) 7), .int (hs_P S (hb_ix ka) 8), .int (hs_P S (hb_ix ka) 9)] := hP.m 1 (hb_ix ka) hi2
  have e2_hb_ix_kahP : M (ad 2 (hb_ix ka)) = hw_ob 5 [.ref (ad 3 (hb_ix ka)), .ref (ad 4 (hb_ix ka)), .ref (ad 5 (hb_ix ka))] := hP.m 2 (hb_ix ka) hi2
  have e3_hb_ix_kahP : M (ad 3 (hb_ix ka)) = hw_al Z 8 (hs_C S (hb_ix ka)) := hP.m 3 (hb_ix ka) hi2
  have e4_hb_ix_kahP : M (ad 4 (hb_ix ka)) = hw_al Z 8 (hb_hang (hs_C S (hb_ix ka))) := hP.m 4 (hb_ix ka) hi2
  have e5_hb_ix_kahP : M (ad 5 (hb_ix ka)) = hw_al Z 8 (hb_supp (hs_C S (hb_ix ka))) := hP.m 5 (hb_ix ka) hi2
  have e6_hb_ix_kahP : M (ad 6 (hb_ix ka)) = hw_ob 2 [.ref (ad 7 (hb_ix ka)), .int (hs_P S (hb_ix ka) 1), .int (hs_P S (hb_ix ka) 2)] := hP.m 6 (hb_ix ka) hi2
  refine lv_astore_n (lv' := [(3, .ref (ad 1 (hb_ix ka))), (0, .ref (ad 0 0)), (1, .int ka), (2, .int (nI 1))]) hx hb dX5_ofPiece_5 rfl hl (by decide) rfl (fun ls hl => ?_)
  refine lv_iload_n hx hb dX5_ofPiece_6 rfl (lv_at hl 3 rfl) ?_
  refine lv_tableIn (tgt := 85) hx hb dX5_ofPiece_7 (by decide) (by decide) rfl (by decide) ?_
  refine lv_aload_n hx hb dX5_ofPiece_85 rfl (lv_at hl 0 rfl) ?_
  refine hw_get hx hb hts hown hk hI fd_X5_68 e1_hb_ix_kahP rfl dX5_ofPiece_86 ?_
  refine hw_ci hI (hw_rV hx hb hml hown hts hk hI (m_X4_height l Z M (ad 2 (hb_ix ka)) (ad 3 (hb_ix ka)) (ad 4 (hb_ix ka)) (ad 5 (hb_ix ka)) (hs_C S (hb_ix ka)) e2_hb_ix_kahP e3_hb_ix_kahP) cv_X5_92 e2_hb_ix_kahP rfl rfl ⟨rfl, rfl⟩ ⟨(Nat.le_of_ble_eq_true rfl), (Nat.le_of_ble_eq_true rfl)⟩ rfl hl.1 rfl (Nat.le_of_ble_eq_true rfl) ⟨(Nat.le_of_ble_eq_true rfl), (Nat.le_of_ble_eq_true rfl)⟩ dX5_ofPiece_89) (fun r89 M89 H locs hR hI => ?_)
  obtain ⟨rfl, rfl⟩ := hR
  exact hret hI (⟨by unfold st_ofPiece; exact (if_neg (fun q => q hk2)).trans ((if_neg (fun q => q (by decide))).trans rfl), rfl⟩) (Nat.le_of_ble_eq_true rfl) (Nat.le_of_ble_eq_true rfl) dX5_ofPiece_92

set_option maxHeartbeats 4000000 in
set_option maxRecDepth 100000 in
theorem m_X5_ofPiece_2 (l : Launch) (hst : l.stackTraces = false) (Z : hw_Z) (M : hw_M) (ad : hp_ad) (S : hs_S) (T : hp_T) (b1 : Nat → Prop) (ka : Int32) (hP : hp_ok Z b1 M ad S T) (hB : hs_b S) : vx_Met l yX5_ofPiece (hw_m yX5_ofPiece cX5_ofPiece 4 (some .int)) ({ frames := 9, cells := 6, slots := 36, locals := 190 } : Room) (va_Pc [.ref (ad 0 0), .int ka, .int (nI 2)] (hw_P Z M)) (hw_Qi Z (hq_N M S (st_ofPiece S ka (nI 2)))) (hw_X Z (hq_X ["java/lang/IndexOutOfBoundsException", "java/lang/IllegalArgumentException"] M S (st_ofPiece S ka (nI 2)))) 6 36 (hw_A Z) := by
  refine hw_xofi hst (by decide +kernel) rfl (Nat.le_of_ble_eq_true rfl) ?_
  intro p e s m below meth c ls Q hx hb hml hown hts hk hnm hI hl hret hxo hthr hthrW
  have hnp := hB.np
  have hnw := hB.nw
  have e0_0hP : M (ad 0 0) = hw_ob 6 [.ref (ad 0 1), .ref (ad 0 2), .ref (ad 0 3), .int (nI (hs_np S)), .int (nI (hs_nw S)), .int (hs_G S 0), .int (hs_G S 1), .ref (ad 0 4), .ref (ad 0 8)] := hP.m 0 0 (by decide)
  have e0_1hP : M (ad 0 1) = hw_ar Z 3 4 (fun j => some (ad 1 j)) := hP.m 0 1 (by decide)
  refine lv_aload_n hx hb dX5_ofPiece_0 rfl (lv_at hl 0 rfl) ?_
  refine lv_iload_n hx hb dX5_ofPiece_1 rfl (lv_at hl 1 rfl) ?_
  refine hw_xr hI hxo (hw_xV hx hb hml hown hts hk hI (m_X5_pieceAt l hst Z M (ad 0 0) (ad 0 1) (ad 0 2) (ad 0 3) (ad 0 4) (ad 0 8) (hs_np S) (hs_nw S) (hs_G S 0) (hs_G S 1) ka (ad 1) e0_0hP e0_1hP hnp) cv_X5_57 e0_0hP rfl rfl ⟨rfl, rfl⟩ ⟨(Nat.le_of_ble_eq_true rfl), (Nat.le_of_ble_eq_true rfl)⟩ rfl hl.1 rfl (Nat.le_of_ble_eq_true rfl) ⟨(Nat.le_of_ble_eq_true rfl), (Nat.le_of_ble_eq_true rfl)⟩ dX5_ofPiece_2) (hq_xc (c := 1) (fun h => by unfold st_ofPiece; exact (hq_if h ⟨rfl, rfl⟩)) ⟨by decide, rfl⟩) (Nat.le_of_ble_eq_true rfl) (Nat.le_of_ble_eq_true rfl) (fun r2 M2 H locs hR hI => ?_)
  obtain ⟨⟨hk2, rfl⟩, rfl⟩ := hR
  have hx2 := hb_okx (by omega) hk2
  have hi2 : hb_ix ka < 4 := by have := hx2.1; omega
  have e1_hb_ix_kahP : M (ad 1 (hb_ix ka)) = hw_ob 3 [.int (nI (hb_ix ka)), .ref (ad 2 (hb_ix ka)), .ref (ad 6 (hb_ix ka)), .int (hs_P S (hb_ix ka) 0), .int (nI (hs_D S (hb_ix ka))), .double (hs_U S (hb_ix ka)), .int (hs_P S (hb_ix ka) 3), hp_ref (ad 9) (hs_P S (hb_ix ka) 4), .int (hs_P S (hb_ix ka) 5), .int (hs_P S (hb_ix ka) 6), .int (hs_P S (hb_ix ka) 7), .int (hs_P S (hb_ix ka) 8), .int (hs_P S (hb_ix ka) 9)] := hP.m 1 (hb_ix ka) hi2
  have e2_hb_ix_kahP : M (ad 2 (hb_ix ka)) = hw_ob 5 [.ref (ad 3 (hb_ix ka)), .ref (ad 4 (hb_ix ka)), .ref (ad 5 (hb_ix ka))] := hP.m 2 (hb_ix ka) hi2
  have e3_hb_ix_kahP : M (ad 3 (hb_ix ka)) = hw_al Z 8 (hs_C S (hb_ix ka)) := hP.m 3 (hb_ix ka) hi2
  have e4_hb_ix_kahP : M (ad 4 (hb_ix ka)) = hw_al Z 8 (hb_hang (hs_C S (hb_ix ka))) := hP.m 4 (hb_ix ka) hi2
  have e5_hb_ix_kahP : M (ad 5 (hb_ix ka)) = hw_al Z 8 (hb_supp (hs_C S (hb_ix ka))) := hP.m 5 (hb_ix ka) hi2
  have e6_hb_ix_kahP : M (ad 6 (hb_ix ka)) = hw_ob 2 [.ref (ad 7 (hb_ix ka)), .int (hs_P S (hb_ix ka) 1), .int (hs_P S (hb_ix ka) 2)] := hP.m 6 (hb_ix ka) hi2
  refine lv_astore_n (lv' := [(3, .ref (ad 1 (hb_ix ka))), (0, .ref (ad 0 0)), (1, .int ka), (2, .int (nI 2))]) hx hb dX5_ofPiece_5 rfl hl (by decide) rfl (fun ls hl => ?_)
  refine lv_iload_n hx hb dX5_ofPiece_6 rfl (lv_at hl 3 rfl) ?_
  refine lv_tableIn (tgt := 93) hx hb dX5_ofPiece_7 (by decide) (by decide) rfl (by decide) ?_
  refine lv_aload_n hx hb dX5_ofPiece_93 rfl (lv_at hl 0 rfl) ?_
  refine hw_get hx hb hts hown hk hI fd_X5_68 e1_hb_ix_kahP rfl dX5_ofPiece_94 ?_
  refine hw_ci hI (hw_rV hx hb hml hown hts hk hI (m_X4_cellCount l Z M (ad 2 (hb_ix ka)) (ad 3 (hb_ix ka)) (ad 4 (hb_ix ka)) (ad 5 (hb_ix ka)) (hs_C S (hb_ix ka)) e2_hb_ix_kahP e3_hb_ix_kahP) cv_X5_255 e2_hb_ix_kahP rfl rfl ⟨rfl, rfl⟩ ⟨(Nat.le_of_ble_eq_true rfl), (Nat.le_of_ble_eq_true rfl)⟩ rfl hl.1 rfl (Nat.le_of_ble_eq_true rfl) ⟨(Nat.le_of_ble_eq_true rfl), (Nat.le_of_ble_eq_true rfl)⟩ dX5_ofPiece_97) (fun r97 M97 H locs hR hI => ?_)
  obtain ⟨rfl, rfl⟩ := hR
  exact hret hI (⟨by unfold st_ofPiece; exact (if_neg (fun q => q hk2)).trans ((if_neg (fun q => q (by decide))).trans rfl), rfl⟩) (Nat.le_of_ble_eq_true rfl) (Nat.le_of_ble_eq_true rfl) dX5_ofPiece_100

set_option maxHeartbeats 4000000 in
set_option maxRecDepth 100000 in
theorem m_X5_ofPiece_3 (l : Launch) (hst : l.stackTraces = false) (Z : hw_Z) (M : hw_M) (ad : hp_ad) (S : hs_S) (T : hp_T) (b1 : Nat → Prop) (ka : Int32) (hP : hp_ok Z b1 M ad S T) (hB : hs_b S) : vx_Met l yX5_ofPiece (hw_m yX5_ofPiece cX5_ofPiece 4 (some .int)) ({ frames := 9, cells := 6, slots := 36, locals := 190 } : Room) (va_Pc [.ref (ad 0 0), .int ka, .int (nI 3)] (hw_P Z M)) (hw_Qi Z (hq_N M S (st_ofPiece S ka (nI 3)))) (hw_X Z (hq_X ["java/lang/IndexOutOfBoundsException", "java/lang/IllegalArgumentException"] M S (st_ofPiece S ka (nI 3)))) 6 36 (hw_A Z) := by
  refine hw_xofi hst (by decide +kernel) rfl (Nat.le_of_ble_eq_true rfl) ?_
  intro p e s m below meth c ls Q hx hb hml hown hts hk hnm hI hl hret hxo hthr hthrW
  have hnp := hB.np
  have hnw := hB.nw
  have e0_0hP : M (ad 0 0) = hw_ob 6 [.ref (ad 0 1), .ref (ad 0 2), .ref (ad 0 3), .int (nI (hs_np S)), .int (nI (hs_nw S)), .int (hs_G S 0), .int (hs_G S 1), .ref (ad 0 4), .ref (ad 0 8)] := hP.m 0 0 (by decide)
  have e0_1hP : M (ad 0 1) = hw_ar Z 3 4 (fun j => some (ad 1 j)) := hP.m 0 1 (by decide)
  refine lv_aload_n hx hb dX5_ofPiece_0 rfl (lv_at hl 0 rfl) ?_
  refine lv_iload_n hx hb dX5_ofPiece_1 rfl (lv_at hl 1 rfl) ?_
  refine hw_xr hI hxo (hw_xV hx hb hml hown hts hk hI (m_X5_pieceAt l hst Z M (ad 0 0) (ad 0 1) (ad 0 2) (ad 0 3) (ad 0 4) (ad 0 8) (hs_np S) (hs_nw S) (hs_G S 0) (hs_G S 1) ka (ad 1) e0_0hP e0_1hP hnp) cv_X5_57 e0_0hP rfl rfl ⟨rfl, rfl⟩ ⟨(Nat.le_of_ble_eq_true rfl), (Nat.le_of_ble_eq_true rfl)⟩ rfl hl.1 rfl (Nat.le_of_ble_eq_true rfl) ⟨(Nat.le_of_ble_eq_true rfl), (Nat.le_of_ble_eq_true rfl)⟩ dX5_ofPiece_2) (hq_xc (c := 1) (fun h => by unfold st_ofPiece; exact (hq_if h ⟨rfl, rfl⟩)) ⟨by decide, rfl⟩) (Nat.le_of_ble_eq_true rfl) (Nat.le_of_ble_eq_true rfl) (fun r2 M2 H locs hR hI => ?_)
  obtain ⟨⟨hk2, rfl⟩, rfl⟩ := hR
  have hx2 := hb_okx (by omega) hk2
  have hi2 : hb_ix ka < 4 := by have := hx2.1; omega
  have e1_hb_ix_kahP : M (ad 1 (hb_ix ka)) = hw_ob 3 [.int (nI (hb_ix ka)), .ref (ad 2 (hb_ix ka)), .ref (ad 6 (hb_ix ka)), .int (hs_P S (hb_ix ka) 0), .int (nI (hs_D S (hb_ix ka))), .double (hs_U S (hb_ix ka)), .int (hs_P S (hb_ix ka) 3), hp_ref (ad 9) (hs_P S (hb_ix ka) 4), .int (hs_P S (hb_ix ka) 5), .int (hs_P S (hb_ix ka) 6), .int (hs_P S (hb_ix ka) 7), .int (hs_P S (hb_ix ka) 8), .int (hs_P S (hb_ix ka) 9)] := hP.m 1 (hb_ix ka) hi2
  have e2_hb_ix_kahP : M (ad 2 (hb_ix ka)) = hw_ob 5 [.ref (ad 3 (hb_ix ka)), .ref (ad 4 (hb_ix ka)), .ref (ad 5 (hb_ix ka))] := hP.m 2 (hb_ix ka) hi2
  have e3_hb_ix_kahP : M (ad 3 (hb_ix ka)) = hw_al Z 8 (hs_C S (hb_ix ka)) := hP.m 3 (hb_ix ka) hi2
  have e4_hb_ix_kahP : M (ad 4 (hb_ix ka)) = hw_al Z 8 (hb_hang (hs_C S (hb_ix ka))) := hP.m 4 (hb_ix ka) hi2
  have e5_hb_ix_kahP : M (ad 5 (hb_ix ka)) = hw_al Z 8 (hb_supp (hs_C S (hb_ix ka))) := hP.m 5 (hb_ix ka) hi2
  have e6_hb_ix_kahP : M (ad 6 (hb_ix ka)) = hw_ob 2 [.ref (ad 7 (hb_ix ka)), .int (hs_P S (hb_ix ka) 1), .int (hs_P S (hb_ix ka) 2)] := hP.m 6 (hb_ix ka) hi2
  refine lv_astore_n (lv' := [(3, .ref (ad 1 (hb_ix ka))), (0, .ref (ad 0 0)), (1, .int ka), (2, .int (nI 3))]) hx hb dX5_ofPiece_5 rfl hl (by decide) rfl (fun ls hl => ?_)
  refine lv_iload_n hx hb dX5_ofPiece_6 rfl (lv_at hl 3 rfl) ?_
  refine lv_tableIn (tgt := 101) hx hb dX5_ofPiece_7 (by decide) (by decide) rfl (by decide) ?_
  refine lv_aload_n hx hb dX5_ofPiece_101 rfl (lv_at hl 0 rfl) ?_
  refine hw_get hx hb hts hown hk hI fd_X5_68 e1_hb_ix_kahP rfl dX5_ofPiece_102 ?_
  refine hw_ci hI (hw_rV hx hb hml hown hts hk hI (m_X4_hangingCount l Z M (ad 2 (hb_ix ka)) (ad 3 (hb_ix ka)) (ad 4 (hb_ix ka)) (ad 5 (hb_ix ka)) (hb_hang (hs_C S (hb_ix ka))) e2_hb_ix_kahP e4_hb_ix_kahP) cv_X5_258 e2_hb_ix_kahP rfl rfl ⟨rfl, rfl⟩ ⟨(Nat.le_of_ble_eq_true rfl), (Nat.le_of_ble_eq_true rfl)⟩ rfl hl.1 rfl (Nat.le_of_ble_eq_true rfl) ⟨(Nat.le_of_ble_eq_true rfl), (Nat.le_of_ble_eq_true rfl)⟩ dX5_ofPiece_105) (fun r105 M105 H locs hR hI => ?_)
  obtain ⟨rfl, rfl⟩ := hR
  exact hret hI (⟨by unfold st_ofPiece; exact (if_neg (fun q => q hk2)).trans ((if_neg (fun q => q (by decide))).trans rfl), rfl⟩) (Nat.le_of_ble_eq_true rfl) (Nat.le_of_ble_eq_true rfl) dX5_ofPiece_108

set_option maxHeartbeats 4000000 in
set_option maxRecDepth 100000 in
theorem m_X5_ofPiece_4 (l : Launch) (hst : l.stackTraces = false) (Z : hw_Z) (M : hw_M) (ad : hp_ad) (S : hs_S) (T : hp_T) (b1 : Nat → Prop) (ka : Int32) (hP : hp_ok Z b1 M ad S T) (hB : hs_b S) : vx_Met l yX5_ofPiece (hw_m yX5_ofPiece cX5_ofPiece 4 (some .int)) ({ frames := 9, cells := 6, slots := 36, locals := 190 } : Room) (va_Pc [.ref (ad 0 0), .int ka, .int (nI 4)] (hw_P Z M)) (hw_Qi Z (hq_N M S (st_ofPiece S ka (nI 4)))) (hw_X Z (hq_X ["java/lang/IndexOutOfBoundsException", "java/lang/IllegalArgumentException"] M S (st_ofPiece S ka (nI 4)))) 6 36 (hw_A Z) := by
  refine hw_xofi hst (by decide +kernel) rfl (Nat.le_of_ble_eq_true rfl) ?_
  intro p e s m below meth c ls Q hx hb hml hown hts hk hnm hI hl hret hxo hthr hthrW
  have hnp := hB.np
  have hnw := hB.nw
  have e0_0hP : M (ad 0 0) = hw_ob 6 [.ref (ad 0 1), .ref (ad 0 2), .ref (ad 0 3), .int (nI (hs_np S)), .int (nI (hs_nw S)), .int (hs_G S 0), .int (hs_G S 1), .ref (ad 0 4), .ref (ad 0 8)] := hP.m 0 0 (by decide)
  have e0_1hP : M (ad 0 1) = hw_ar Z 3 4 (fun j => some (ad 1 j)) := hP.m 0 1 (by decide)
  refine lv_aload_n hx hb dX5_ofPiece_0 rfl (lv_at hl 0 rfl) ?_
  refine lv_iload_n hx hb dX5_ofPiece_1 rfl (lv_at hl 1 rfl) ?_
  refine hw_xr hI hxo (hw_xV hx hb hml hown hts hk hI (m_X5_pieceAt l hst Z M (ad 0 0) (ad 0 1) (ad 0 2) (ad 0 3) (ad 0 4) (ad 0 8) (hs_np S) (hs_nw S) (hs_G S 0) (hs_G S 1) ka (ad 1) e0_0hP e0_1hP hnp) cv_X5_57 e0_0hP rfl rfl ⟨rfl, rfl⟩ ⟨(Nat.le_of_ble_eq_true rfl), (Nat.le_of_ble_eq_true rfl)⟩ rfl hl.1 rfl (Nat.le_of_ble_eq_true rfl) ⟨(Nat.le_of_ble_eq_true rfl), (Nat.le_of_ble_eq_true rfl)⟩ dX5_ofPiece_2) (hq_xc (c := 1) (fun h => by unfold st_ofPiece; exact (hq_if h ⟨rfl, rfl⟩)) ⟨by decide, rfl⟩) (Nat.le_of_ble_eq_true rfl) (Nat.le_of_ble_eq_true rfl) (fun r2 M2 H locs hR hI => ?_)
  obtain ⟨⟨hk2, rfl⟩, rfl⟩ := hR
  have hx2 := hb_okx (by omega) hk2
  have hi2 : hb_ix ka < 4 := by have := hx2.1; omega
  have e1_hb_ix_kahP : M (ad 1 (hb_ix ka)) = hw_ob 3 [.int (nI (hb_ix ka)), .ref (ad 2 (hb_ix ka)), .ref (ad 6 (hb_ix ka)), .int (hs_P S (hb_ix ka) 0), .int (nI (hs_D S (hb_ix ka))), .double (hs_U S (hb_ix ka)), .int (hs_P S (hb_ix ka) 3), hp_ref (ad 9) (hs_P S (hb_ix ka) 4), .int (hs_P S (hb_ix ka) 5), .int (hs_P S (hb_ix ka) 6), .int (hs_P S (hb_ix ka) 7), .int (hs_P S (hb_ix ka) 8), .int (hs_P S (hb_ix ka) 9)] := hP.m 1 (hb_ix ka) hi2
  have e2_hb_ix_kahP : M (ad 2 (hb_ix ka)) = hw_ob 5 [.ref (ad 3 (hb_ix ka)), .ref (ad 4 (hb_ix ka)), .ref (ad 5 (hb_ix ka))] := hP.m 2 (hb_ix ka) hi2
  have e3_hb_ix_kahP : M (ad 3 (hb_ix ka)) = hw_al Z 8 (hs_C S (hb_ix ka)) := hP.m 3 (hb_ix ka) hi2
  have e4_hb_ix_kahP : M (ad 4 (hb_ix ka)) = hw_al Z 8 (hb_hang (hs_C S (hb_ix ka))) := hP.m 4 (hb_ix ka) hi2
  have e5_hb_ix_kahP : M (ad 5 (hb_ix ka)) = hw_al Z 8 (hb_supp (hs_C S (hb_ix ka))) := hP.m 5 (hb_ix ka) hi2
  have e6_hb_ix_kahP : M (ad 6 (hb_ix ka)) = hw_ob 2 [.ref (ad 7 (hb_ix ka)), .int (hs_P S (hb_ix ka) 1), .int (hs_P S (hb_ix ka) 2)] := hP.m 6 (hb_ix ka) hi2
  refine lv_astore_n (lv' := [(3, .ref (ad 1 (hb_ix ka))), (0, .ref (ad 0 0)), (1, .int ka), (2, .int (nI 4))]) hx hb dX5_ofPiece_5 rfl hl (by decide) rfl (fun ls hl => ?_)
  refine lv_iload_n hx hb dX5_ofPiece_6 rfl (lv_at hl 3 rfl) ?_
  refine lv_tableIn (tgt := 109) hx hb dX5_ofPiece_7 (by decide) (by decide) rfl (by decide) ?_
  refine lv_aload_n hx hb dX5_ofPiece_109 rfl (lv_at hl 0 rfl) ?_
  refine hw_get hx hb hts hown hk hI fd_X5_68 e1_hb_ix_kahP rfl dX5_ofPiece_110 ?_
  refine hw_ci hI (hw_rV hx hb hml hown hts hk hI (m_X4_islandCount l Z M (ad 2 (hb_ix ka)) (ad 3 (hb_ix ka)) (ad 4 (hb_ix ka)) (ad 5 (hb_ix ka)) (hs_C S (hb_ix ka)) e2_hb_ix_kahP e3_hb_ix_kahP) cv_X5_261 e2_hb_ix_kahP rfl rfl ⟨rfl, rfl⟩ ⟨(Nat.le_of_ble_eq_true rfl), (Nat.le_of_ble_eq_true rfl)⟩ rfl hl.1 rfl (Nat.le_of_ble_eq_true rfl) ⟨(Nat.le_of_ble_eq_true rfl), (Nat.le_of_ble_eq_true rfl)⟩ dX5_ofPiece_113) (fun r113 M113 H locs hR hI => ?_)
  obtain ⟨rfl, rfl⟩ := hR
  exact hret hI (⟨by unfold st_ofPiece; exact (if_neg (fun q => q hk2)).trans ((if_neg (fun q => q (by decide))).trans rfl), rfl⟩) (Nat.le_of_ble_eq_true rfl) (Nat.le_of_ble_eq_true rfl) dX5_ofPiece_116

set_option maxHeartbeats 4000000 in
set_option maxRecDepth 100000 in
theorem m_X5_ofPiece_5 (l : Launch) (hst : l.stackTraces = false) (Z : hw_Z) (M : hw_M) (ad : hp_ad) (S : hs_S) (T : hp_T) (b1 : Nat → Prop) (ka : Int32) (hP : hp_ok Z b1 M ad S T) (hB : hs_b S) : vx_Met l yX5_ofPiece (hw_m yX5_ofPiece cX5_ofPiece 4 (some .int)) ({ frames := 9, cells := 6, slots := 36, locals := 190 } : Room) (va_Pc [.ref (ad 0 0), .int ka, .int (nI 5)] (hw_P Z M)) (hw_Qi Z (hq_N M S (st_ofPiece S ka (nI 5)))) (hw_X Z (hq_X ["java/lang/IndexOutOfBoundsException", "java/lang/IllegalArgumentException"] M S (st_ofPiece S ka (nI 5)))) 6 36 (hw_A Z) := by
  refine hw_xofi hst (by decide +kernel) rfl (Nat.le_of_ble_eq_true rfl) ?_
  intro p e s m below meth c ls Q hx hb hml hown hts hk hnm hI hl hret hxo hthr hthrW
  have hnp := hB.np
  have hnw := hB.nw
  have e0_0hP : M (ad 0 0) = hw_ob 6 [.ref (ad 0 1), .ref (ad 0 2), .ref (ad 0 3), .int (nI (hs_np S)), .int (nI (hs_nw S)), .int (hs_G S 0), .int (hs_G S 1), .ref (ad 0 4), .ref (ad 0 8)] := hP.m 0 0 (by decide)
  have e0_1hP : M (ad 0 1) = hw_ar Z 3 4 (fun j => some (ad 1 j)) := hP.m 0 1 (by decide)
  refine lv_aload_n hx hb dX5_ofPiece_0 rfl (lv_at hl 0 rfl) ?_
  refine lv_iload_n hx hb dX5_ofPiece_1 rfl (lv_at hl 1 rfl) ?_
  refine hw_xr hI hxo (hw_xV hx hb hml hown hts hk hI (m_X5_pieceAt l hst Z M (ad 0 0) (ad 0 1) (ad 0 2) (ad 0 3) (ad 0 4) (ad 0 8) (hs_np S) (hs_nw S) (hs_G S 0) (hs_G S 1) ka (ad 1) e0_0hP e0_1hP hnp) cv_X5_57 e0_0hP rfl rfl ⟨rfl, rfl⟩ ⟨(Nat.le_of_ble_eq_true rfl), (Nat.le_of_ble_eq_true rfl)⟩ rfl hl.1 rfl (Nat.le_of_ble_eq_true rfl) ⟨(Nat.le_of_ble_eq_true rfl), (Nat.le_of_ble_eq_true rfl)⟩ dX5_ofPiece_2) (hq_xc (c := 1) (fun h => by unfold st_ofPiece; exact (hq_if h ⟨rfl, rfl⟩)) ⟨by decide, rfl⟩) (Nat.le_of_ble_eq_true rfl) (Nat.le_of_ble_eq_true rfl) (fun r2 M2 H locs hR hI => ?_)
  obtain ⟨⟨hk2, rfl⟩, rfl⟩ := hR
  have hx2 := hb_okx (by omega) hk2
  have hi2 : hb_ix ka < 4 := by have := hx2.1; omega
  have e1_hb_ix_kahP : M (ad 1 (hb_ix ka)) = hw_ob 3 [.int (nI (hb_ix ka)), .ref (ad 2 (hb_ix ka)), .ref (ad 6 (hb_ix ka)), .int (hs_P S (hb_ix ka) 0), .int (nI (hs_D S (hb_ix ka))), .double (hs_U S (hb_ix ka)), .int (hs_P S (hb_ix ka) 3), hp_ref (ad 9) (hs_P S (hb_ix ka) 4), .int (hs_P S (hb_ix ka) 5), .int (hs_P S (hb_ix ka) 6), .int (hs_P S (hb_ix ka) 7), .int (hs_P S (hb_ix ka) 8), .int (hs_P S (hb_ix ka) 9)] := hP.m 1 (hb_ix ka) hi2
  have e2_hb_ix_kahP : M (ad 2 (hb_ix ka)) = hw_ob 5 [.ref (ad 3 (hb_ix ka)), .ref (ad 4 (hb_ix ka)), .ref (ad 5 (hb_ix ka))] := hP.m 2 (hb_ix ka) hi2
  have e3_hb_ix_kahP : M (ad 3 (hb_ix ka)) = hw_al Z 8 (hs_C S (hb_ix ka)) := hP.m 3 (hb_ix ka) hi2
  have e4_hb_ix_kahP : M (ad 4 (hb_ix ka)) = hw_al Z 8 (hb_hang (hs_C S (hb_ix ka))) := hP.m 4 (hb_ix ka) hi2
  have e5_hb_ix_kahP : M (ad 5 (hb_ix ka)) = hw_al Z 8 (hb_supp (hs_C S (hb_ix ka))) := hP.m 5 (hb_ix ka) hi2
  have e6_hb_ix_kahP : M (ad 6 (hb_ix ka)) = hw_ob 2 [.ref (ad 7 (hb_ix ka)), .int (hs_P S (hb_ix ka) 1), .int (hs_P S (hb_ix ka) 2)] := hP.m 6 (hb_ix ka) hi2
  refine lv_astore_n (lv' := [(3, .ref (ad 1 (hb_ix ka))), (0, .ref (ad 0 0)), (1, .int ka), (2, .int (nI 5))]) hx hb dX5_ofPiece_5 rfl hl (by decide) rfl (fun ls hl => ?_)
  refine lv_iload_n hx hb dX5_ofPiece_6 rfl (lv_at hl 3 rfl) ?_
  refine lv_tableIn (tgt := 117) hx hb dX5_ofPiece_7 (by decide) (by decide) rfl (by decide) ?_
  refine lv_aload_n hx hb dX5_ofPiece_117 rfl (lv_at hl 0 rfl) ?_
  refine hw_get hx hb hts hown hk hI fd_X5_68 e1_hb_ix_kahP rfl dX5_ofPiece_118 ?_
  refine hw_ci hI (hw_rV hx hb hml hown hts hk hI (m_X4_supportCount l Z M (ad 2 (hb_ix ka)) (ad 3 (hb_ix ka)) (ad 4 (hb_ix ka)) (ad 5 (hb_ix ka)) (hb_supp (hs_C S (hb_ix ka))) e2_hb_ix_kahP e5_hb_ix_kahP) cv_X5_264 e2_hb_ix_kahP rfl rfl ⟨rfl, rfl⟩ ⟨(Nat.le_of_ble_eq_true rfl), (Nat.le_of_ble_eq_true rfl)⟩ rfl hl.1 rfl (Nat.le_of_ble_eq_true rfl) ⟨(Nat.le_of_ble_eq_true rfl), (Nat.le_of_ble_eq_true rfl)⟩ dX5_ofPiece_121) (fun r121 M121 H locs hR hI => ?_)
  obtain ⟨rfl, rfl⟩ := hR
  exact hret hI (⟨by unfold st_ofPiece; exact (if_neg (fun q => q hk2)).trans ((if_neg (fun q => q (by decide))).trans rfl), rfl⟩) (Nat.le_of_ble_eq_true rfl) (Nat.le_of_ble_eq_true rfl) dX5_ofPiece_124

set_option maxHeartbeats 4000000 in
set_option maxRecDepth 100000 in
theorem m_X5_ofPiece_6 (l : Launch) (hst : l.stackTraces = false) (Z : hw_Z) (M : hw_M) (ad : hp_ad) (S : hs_S) (T : hp_T) (b1 : Nat → Prop) (ka : Int32) (hP : hp_ok Z b1 M ad S T) (hB : hs_b S) : vx_Met l yX5_ofPiece (hw_m yX5_ofPiece cX5_ofPiece 4 (some .int)) ({ frames := 9, cells := 6, slots := 36, locals := 190 } : Room) (va_Pc [.ref (ad 0 0), .int ka, .int (nI 6)] (hw_P Z M)) (hw_Qi Z (hq_N M S (st_ofPiece S ka (nI 6)))) (hw_X Z (hq_X ["java/lang/IndexOutOfBoundsException", "java/lang/IllegalArgumentException"] M S (st_ofPiece S ka (nI 6)))) 6 36 (hw_A Z) := by
  refine hw_xofi hst (by decide +kernel) rfl (Nat.le_of_ble_eq_true rfl) ?_
  intro p e s m below meth c ls Q hx hb hml hown hts hk hnm hI hl hret hxo hthr hthrW
  have hnp := hB.np
  have hnw := hB.nw
  have e0_0hP : M (ad 0 0) = hw_ob 6 [.ref (ad 0 1), .ref (ad 0 2), .ref (ad 0 3), .int (nI (hs_np S)), .int (nI (hs_nw S)), .int (hs_G S 0), .int (hs_G S 1), .ref (ad 0 4), .ref (ad 0 8)] := hP.m 0 0 (by decide)
  have e0_1hP : M (ad 0 1) = hw_ar Z 3 4 (fun j => some (ad 1 j)) := hP.m 0 1 (by decide)
  refine lv_aload_n hx hb dX5_ofPiece_0 rfl (lv_at hl 0 rfl) ?_
  refine lv_iload_n hx hb dX5_ofPiece_1 rfl (lv_at hl 1 rfl) ?_
  refine hw_xr hI hxo (hw_xV hx hb hml hown hts hk hI (m_X5_pieceAt l hst Z M (ad 0 0) (ad 0 1) (ad 0 2) (ad 0 3) (ad 0 4) (ad 0 8) (hs_np S) (hs_nw S) (hs_G S 0) (hs_G S 1) ka (ad 1) e0_0hP e0_1hP hnp) cv_X5_57 e0_0hP rfl rfl ⟨rfl, rfl⟩ ⟨(Nat.le_of_ble_eq_true rfl), (Nat.le_of_ble_eq_true rfl)⟩ rfl hl.1 rfl (Nat.le_of_ble_eq_true rfl) ⟨(Nat.le_of_ble_eq_true rfl), (Nat.le_of_ble_eq_true rfl)⟩ dX5_ofPiece_2) (hq_xc (c := 1) (fun h => by unfold st_ofPiece; exact (hq_if h ⟨rfl, rfl⟩)) ⟨by decide, rfl⟩) (Nat.le_of_ble_eq_true rfl) (Nat.le_of_ble_eq_true rfl) (fun r2 M2 H locs hR hI => ?_)
  obtain ⟨⟨hk2, rfl⟩, rfl⟩ := hR
  have hx2 := hb_okx (by omega) hk2
  have hi2 : hb_ix ka < 4 := by have := hx2.1; omega
  have e1_hb_ix_kahP : M (ad 1 (hb_ix ka)) = hw_ob 3 [.int (nI (hb_ix ka)), .ref (ad 2 (hb_ix ka)), .ref (ad 6 (hb_ix ka)), .int (hs_P S (hb_ix ka) 0), .int (nI (hs_D S (hb_ix ka))), .double (hs_U S (hb_ix ka)), .int (hs_P S (hb_ix ka) 3), hp_ref (ad 9) (hs_P S (hb_ix ka) 4), .int (hs_P S (hb_ix ka) 5), .int (hs_P S (hb_ix ka) 6), .int (hs_P S (hb_ix ka) 7), .int (hs_P S (hb_ix ka) 8), .int (hs_P S (hb_ix ka) 9)] := hP.m 1 (hb_ix ka) hi2
  have e2_hb_ix_kahP : M (ad 2 (hb_ix ka)) = hw_ob 5 [.ref (ad 3 (hb_ix ka)), .ref (ad 4 (hb_ix ka)), .ref (ad 5 (hb_ix ka))] := hP.m 2 (hb_ix ka) hi2
  have e3_hb_ix_kahP : M (ad 3 (hb_ix ka)) = hw_al Z 8 (hs_C S (hb_ix ka)) := hP.m 3 (hb_ix ka) hi2
  have e4_hb_ix_kahP : M (ad 4 (hb_ix ka)) = hw_al Z 8 (hb_hang (hs_C S (hb_ix ka))) := hP.m 4 (hb_ix ka) hi2
  have e5_hb_ix_kahP : M (ad 5 (hb_ix ka)) = hw_al Z 8 (hb_supp (hs_C S (hb_ix ka))) := hP.m 5 (hb_ix ka) hi2
  have e6_hb_ix_kahP : M (ad 6 (hb_ix ka)) = hw_ob 2 [.ref (ad 7 (hb_ix ka)), .int (hs_P S (hb_ix ka) 1), .int (hs_P S (hb_ix ka) 2)] := hP.m 6 (hb_ix ka) hi2
  refine lv_astore_n (lv' := [(3, .ref (ad 1 (hb_ix ka))), (0, .ref (ad 0 0)), (1, .int ka), (2, .int (nI 6))]) hx hb dX5_ofPiece_5 rfl hl (by decide) rfl (fun ls hl => ?_)
  refine lv_iload_n hx hb dX5_ofPiece_6 rfl (lv_at hl 3 rfl) ?_
  refine lv_tableIn (tgt := 125) hx hb dX5_ofPiece_7 (by decide) (by decide) rfl (by decide) ?_
  refine lv_aload_n hx hb dX5_ofPiece_125 rfl (lv_at hl 0 rfl) ?_
  refine hw_get hx hb hts hown hk hI fd_X5_207 e1_hb_ix_kahP rfl dX5_ofPiece_126 ?_
  exact hret hI (⟨by unfold st_ofPiece; exact (if_neg (fun q => q hk2)).trans ((if_neg (fun q => q (by decide))).trans rfl), rfl⟩) (Nat.le_of_ble_eq_true rfl) (Nat.le_of_ble_eq_true rfl) dX5_ofPiece_129

set_option maxHeartbeats 4000000 in
set_option maxRecDepth 100000 in
theorem m_X5_ofPiece_7 (l : Launch) (hst : l.stackTraces = false) (Z : hw_Z) (M : hw_M) (ad : hp_ad) (S : hs_S) (T : hp_T) (b1 : Nat → Prop) (ka : Int32) (hP : hp_ok Z b1 M ad S T) (hB : hs_b S) : vx_Met l yX5_ofPiece (hw_m yX5_ofPiece cX5_ofPiece 4 (some .int)) ({ frames := 9, cells := 6, slots := 36, locals := 190 } : Room) (va_Pc [.ref (ad 0 0), .int ka, .int (nI 7)] (hw_P Z M)) (hw_Qi Z (hq_N M S (st_ofPiece S ka (nI 7)))) (hw_X Z (hq_X ["java/lang/IndexOutOfBoundsException", "java/lang/IllegalArgumentException"] M S (st_ofPiece S ka (nI 7)))) 6 36 (hw_A Z) := by
  refine hw_xofi hst (by decide +kernel) rfl (Nat.le_of_ble_eq_true rfl) ?_
  intro p e s m below meth c ls Q hx hb hml hown hts hk hnm hI hl hret hxo hthr hthrW
  have hnp := hB.np
  have hnw := hB.nw
  have e0_0hP : M (ad 0 0) = hw_ob 6 [.ref (ad 0 1), .ref (ad 0 2), .ref (ad 0 3), .int (nI (hs_np S)), .int (nI (hs_nw S)), .int (hs_G S 0), .int (hs_G S 1), .ref (ad 0 4), .ref (ad 0 8)] := hP.m 0 0 (by decide)
  have e0_1hP : M (ad 0 1) = hw_ar Z 3 4 (fun j => some (ad 1 j)) := hP.m 0 1 (by decide)
  refine lv_aload_n hx hb dX5_ofPiece_0 rfl (lv_at hl 0 rfl) ?_
  refine lv_iload_n hx hb dX5_ofPiece_1 rfl (lv_at hl 1 rfl) ?_
  refine hw_xr hI hxo (hw_xV hx hb hml hown hts hk hI (m_X5_pieceAt l hst Z M (ad 0 0) (ad 0 1) (ad 0 2) (ad 0 3) (ad 0 4) (ad 0 8) (hs_np S) (hs_nw S) (hs_G S 0) (hs_G S 1) ka (ad 1) e0_0hP e0_1hP hnp) cv_X5_57 e0_0hP rfl rfl ⟨rfl, rfl⟩ ⟨(Nat.le_of_ble_eq_true rfl), (Nat.le_of_ble_eq_true rfl)⟩ rfl hl.1 rfl (Nat.le_of_ble_eq_true rfl) ⟨(Nat.le_of_ble_eq_true rfl), (Nat.le_of_ble_eq_true rfl)⟩ dX5_ofPiece_2) (hq_xc (c := 1) (fun h => by unfold st_ofPiece; exact (hq_if h ⟨rfl, rfl⟩)) ⟨by decide, rfl⟩) (Nat.le_of_ble_eq_true rfl) (Nat.le_of_ble_eq_true rfl) (fun r2 M2 H locs hR hI => ?_)
  obtain ⟨⟨hk2, rfl⟩, rfl⟩ := hR
  have hx2 := hb_okx (by omega) hk2
  have hi2 : hb_ix ka < 4 := by have := hx2.1; omega
  have e1_hb_ix_kahP : M (ad 1 (hb_ix ka)) = hw_ob 3 [.int (nI (hb_ix ka)), .ref (ad 2 (hb_ix ka)), .ref (ad 6 (hb_ix ka)), .int (hs_P S (hb_ix ka) 0), .int (nI (hs_D S (hb_ix ka))), .double (hs_U S (hb_ix ka)), .int (hs_P S (hb_ix ka) 3), hp_ref (ad 9) (hs_P S (hb_ix ka) 4), .int (hs_P S (hb_ix ka) 5), .int (hs_P S (hb_ix ka) 6), .int (hs_P S (hb_ix ka) 7), .int (hs_P S (hb_ix ka) 8), .int (hs_P S (hb_ix ka) 9)] := hP.m 1 (hb_ix ka) hi2
  have e2_hb_ix_kahP : M (ad 2 (hb_ix ka)) = hw_ob 5 [.ref (ad 3 (hb_ix ka)), .ref (ad 4 (hb_ix ka)), .ref (ad 5 (hb_ix ka))] := hP.m 2 (hb_ix ka) hi2
  have e3_hb_ix_kahP : M (ad 3 (hb_ix ka)) = hw_al Z 8 (hs_C S (hb_ix ka)) := hP.m 3 (hb_ix ka) hi2
  have e4_hb_ix_kahP : M (ad 4 (hb_ix ka)) = hw_al Z 8 (hb_hang (hs_C S (hb_ix ka))) := hP.m 4 (hb_ix ka) hi2
  have e5_hb_ix_kahP : M (ad 5 (hb_ix ka)) = hw_al Z 8 (hb_supp (hs_C S (hb_ix ka))) := hP.m 5 (hb_ix ka) hi2
  have e6_hb_ix_kahP : M (ad 6 (hb_ix ka)) = hw_ob 2 [.ref (ad 7 (hb_ix ka)), .int (hs_P S (hb_ix ka) 1), .int (hs_P S (hb_ix ka) 2)] := hP.m 6 (hb_ix ka) hi2
  refine lv_astore_n (lv' := [(3, .ref (ad 1 (hb_ix ka))), (0, .ref (ad 0 0)), (1, .int ka), (2, .int (nI 7))]) hx hb dX5_ofPiece_5 rfl hl (by decide) rfl (fun ls hl => ?_)
  refine lv_iload_n hx hb dX5_ofPiece_6 rfl (lv_at hl 3 rfl) ?_
  refine lv_tableIn (tgt := 130) hx hb dX5_ofPiece_7 (by decide) (by decide) rfl (by decide) ?_
  refine lv_aload_n hx hb dX5_ofPiece_130 rfl (lv_at hl 0 rfl) ?_
  refine hw_get hx hb hts hown hk hI fd_X5_198 e1_hb_ix_kahP rfl dX5_ofPiece_131 ?_
  refine hw_get hx hb hts hown hk hI fd_X5_229 e6_hb_ix_kahP rfl dX5_ofPiece_134 ?_
  exact hret hI (⟨by unfold st_ofPiece; exact (if_neg (fun q => q hk2)).trans ((if_neg (fun q => q (by decide))).trans rfl), rfl⟩) (Nat.le_of_ble_eq_true rfl) (Nat.le_of_ble_eq_true rfl) dX5_ofPiece_137

set_option maxHeartbeats 4000000 in
set_option maxRecDepth 100000 in
theorem m_X5_ofPiece_8 (l : Launch) (hst : l.stackTraces = false) (Z : hw_Z) (M : hw_M) (ad : hp_ad) (S : hs_S) (T : hp_T) (b1 : Nat → Prop) (ka : Int32) (hP : hp_ok Z b1 M ad S T) (hB : hs_b S) : vx_Met l yX5_ofPiece (hw_m yX5_ofPiece cX5_ofPiece 4 (some .int)) ({ frames := 9, cells := 6, slots := 36, locals := 190 } : Room) (va_Pc [.ref (ad 0 0), .int ka, .int (nI 8)] (hw_P Z M)) (hw_Qi Z (hq_N M S (st_ofPiece S ka (nI 8)))) (hw_X Z (hq_X ["java/lang/IndexOutOfBoundsException", "java/lang/IllegalArgumentException"] M S (st_ofPiece S ka (nI 8)))) 6 36 (hw_A Z) := by
  refine hw_xofi hst (by decide +kernel) rfl (Nat.le_of_ble_eq_true rfl) ?_
  intro p e s m below meth c ls Q hx hb hml hown hts hk hnm hI hl hret hxo hthr hthrW
  have hnp := hB.np
  have hnw := hB.nw
  have e0_0hP : M (ad 0 0) = hw_ob 6 [.ref (ad 0 1), .ref (ad 0 2), .ref (ad 0 3), .int (nI (hs_np S)), .int (nI (hs_nw S)), .int (hs_G S 0), .int (hs_G S 1), .ref (ad 0 4), .ref (ad 0 8)] := hP.m 0 0 (by decide)
  have e0_1hP : M (ad 0 1) = hw_ar Z 3 4 (fun j => some (ad 1 j)) := hP.m 0 1 (by decide)
  refine lv_aload_n hx hb dX5_ofPiece_0 rfl (lv_at hl 0 rfl) ?_
  refine lv_iload_n hx hb dX5_ofPiece_1 rfl (lv_at hl 1 rfl) ?_
  refine hw_xr hI hxo (hw_xV hx hb hml hown hts hk hI (m_X5_pieceAt l hst Z M (ad 0 0) (ad 0 1) (ad 0 2) (ad 0 3) (ad 0 4) (ad 0 8) (hs_np S) (hs_nw S) (hs_G S 0) (hs_G S 1) ka (ad 1) e0_0hP e0_1hP hnp) cv_X5_57 e0_0hP rfl rfl ⟨rfl, rfl⟩ ⟨(Nat.le_of_ble_eq_true rfl), (Nat.le_of_ble_eq_true rfl)⟩ rfl hl.1 rfl (Nat.le_of_ble_eq_true rfl) ⟨(Nat.le_of_ble_eq_true rfl), (Nat.le_of_ble_eq_true rfl)⟩ dX5_ofPiece_2) (hq_xc (c := 1) (fun h => by unfold st_ofPiece; exact (hq_if h ⟨rfl, rfl⟩)) ⟨by decide, rfl⟩) (Nat.le_of_ble_eq_true rfl) (Nat.le_of_ble_eq_true rfl) (fun r2 M2 H locs hR hI => ?_)
  obtain ⟨⟨hk2, rfl⟩, rfl⟩ := hR
  have hx2 := hb_okx (by omega) hk2
  have hi2 : hb_ix ka < 4 := by have := hx2.1; omega
  have e1_hb_ix_kahP : M (ad 1 (hb_ix ka)) = hw_ob 3 [.int (nI (hb_ix ka)), .ref (ad 2 (hb_ix ka)), .ref (ad 6 (hb_ix ka)), .int (hs_P S (hb_ix ka) 0), .int (nI (hs_D S (hb_ix ka))), .double (hs_U S (hb_ix ka)), .int (hs_P S (hb_ix ka) 3), hp_ref (ad 9) (hs_P S (hb_ix ka) 4), .int (hs_P S (hb_ix ka) 5), .int (hs_P S (hb_ix ka) 6), .int (hs_P S (hb_ix ka) 7), .int (hs_P S (hb_ix ka) 8), .int (hs_P S (hb_ix ka) 9)] := hP.m 1 (hb_ix ka) hi2
  have e2_hb_ix_kahP : M (ad 2 (hb_ix ka)) = hw_ob 5 [.ref (ad 3 (hb_ix ka)), .ref (ad 4 (hb_ix ka)), .ref (ad 5 (hb_ix ka))] := hP.m 2 (hb_ix ka) hi2
  have e3_hb_ix_kahP : M (ad 3 (hb_ix ka)) = hw_al Z 8 (hs_C S (hb_ix ka)) := hP.m 3 (hb_ix ka) hi2
  have e4_hb_ix_kahP : M (ad 4 (hb_ix ka)) = hw_al Z 8 (hb_hang (hs_C S (hb_ix ka))) := hP.m 4 (hb_ix ka) hi2
  have e5_hb_ix_kahP : M (ad 5 (hb_ix ka)) = hw_al Z 8 (hb_supp (hs_C S (hb_ix ka))) := hP.m 5 (hb_ix ka) hi2
  have e6_hb_ix_kahP : M (ad 6 (hb_ix ka)) = hw_ob 2 [.ref (ad 7 (hb_ix ka)), .int (hs_P S (hb_ix ka) 1), .int (hs_P S (hb_ix ka) 2)] := hP.m 6 (hb_ix ka) hi2
  refine lv_astore_n (lv' := [(3, .ref (ad 1 (hb_ix ka))), (0, .ref (ad 0 0)), (1, .int ka), (2, .int (nI 8))]) hx hb dX5_ofPiece_5 rfl hl (by decide) rfl (fun ls hl => ?_)
  refine lv_iload_n hx hb dX5_ofPiece_6 rfl (lv_at hl 3 rfl) ?_
  refine lv_tableIn (tgt := 138) hx hb dX5_ofPiece_7 (by decide) (by decide) rfl (by decide) ?_
  refine lv_aload_n hx hb dX5_ofPiece_138 rfl (lv_at hl 0 rfl) ?_
  refine hw_get hx hb hts hown hk hI fd_X5_198 e1_hb_ix_kahP rfl dX5_ofPiece_139 ?_
  refine hw_get hx hb hts hown hk hI fd_X5_267 e6_hb_ix_kahP rfl dX5_ofPiece_142 ?_
  exact hret hI (⟨by unfold st_ofPiece; exact (if_neg (fun q => q hk2)).trans ((if_neg (fun q => q (by decide))).trans rfl), rfl⟩) (Nat.le_of_ble_eq_true rfl) (Nat.le_of_ble_eq_true rfl) dX5_ofPiece_145

set_option maxHeartbeats 4000000 in
set_option maxRecDepth 100000 in
theorem m_X5_ofPiece_9 (l : Launch) (hst : l.stackTraces = false) (Z : hw_Z) (M : hw_M) (ad : hp_ad) (S : hs_S) (T : hp_T) (b1 : Nat → Prop) (ka : Int32) (hP : hp_ok Z b1 M ad S T) (hB : hs_b S) : vx_Met l yX5_ofPiece (hw_m yX5_ofPiece cX5_ofPiece 4 (some .int)) ({ frames := 9, cells := 6, slots := 36, locals := 190 } : Room) (va_Pc [.ref (ad 0 0), .int ka, .int (nI 9)] (hw_P Z M)) (hw_Qi Z (hq_N M S (st_ofPiece S ka (nI 9)))) (hw_X Z (hq_X ["java/lang/IndexOutOfBoundsException", "java/lang/IllegalArgumentException"] M S (st_ofPiece S ka (nI 9)))) 6 36 (hw_A Z) := by
  refine hw_xofi hst (by decide +kernel) rfl (Nat.le_of_ble_eq_true rfl) ?_
  intro p e s m below meth c ls Q hx hb hml hown hts hk hnm hI hl hret hxo hthr hthrW
  have hnp := hB.np
  have hnw := hB.nw
  have e0_0hP : M (ad 0 0) = hw_ob 6 [.ref (ad 0 1), .ref (ad 0 2), .ref (ad 0 3), .int (nI (hs_np S)), .int (nI (hs_nw S)), .int (hs_G S 0), .int (hs_G S 1), .ref (ad 0 4), .ref (ad 0 8)] := hP.m 0 0 (by decide)
  have e0_1hP : M (ad 0 1) = hw_ar Z 3 4 (fun j => some (ad 1 j)) := hP.m 0 1 (by decide)
  refine lv_aload_n hx hb dX5_ofPiece_0 rfl (lv_at hl 0 rfl) ?_
  refine lv_iload_n hx hb dX5_ofPiece_1 rfl (lv_at hl 1 rfl) ?_
  refine hw_xr hI hxo (hw_xV hx hb hml hown hts hk hI (m_X5_pieceAt l hst Z M (ad 0 0) (ad 0 1) (ad 0 2) (ad 0 3) (ad 0 4) (ad 0 8) (hs_np S) (hs_nw S) (hs_G S 0) (hs_G S 1) ka (ad 1) e0_0hP e0_1hP hnp) cv_X5_57 e0_0hP rfl rfl ⟨rfl, rfl⟩ ⟨(Nat.le_of_ble_eq_true rfl), (Nat.le_of_ble_eq_true rfl)⟩ rfl hl.1 rfl (Nat.le_of_ble_eq_true rfl) ⟨(Nat.le_of_ble_eq_true rfl), (Nat.le_of_ble_eq_true rfl)⟩ dX5_ofPiece_2) (hq_xc (c := 1) (fun h => by unfold st_ofPiece; exact (hq_if h ⟨rfl, rfl⟩)) ⟨by decide, rfl⟩) (Nat.le_of_ble_eq_true rfl) (Nat.le_of_ble_eq_true rfl) (fun r2 M2 H locs hR hI => ?_)
  obtain ⟨⟨hk2, rfl⟩, rfl⟩ := hR
  have hx2 := hb_okx (by omega) hk2
  have hi2 : hb_ix ka < 4 := by have := hx2.1; omega
  have e1_hb_ix_kahP : M (ad 1 (hb_ix ka)) = hw_ob 3 [.int (nI (hb_ix ka)), .ref (ad 2 (hb_ix ka)), .ref (ad 6 (hb_ix ka)), .int (hs_P S (hb_ix ka) 0), .int (nI (hs_D S (hb_ix ka))), .double (hs_U S (hb_ix ka)), .int (hs_P S (hb_ix ka) 3), hp_ref (ad 9) (hs_P S (hb_ix ka) 4), .int (hs_P S (hb_ix ka) 5), .int (hs_P S (hb_ix ka) 6), .int (hs_P S (hb_ix ka) 7), .int (hs_P S (hb_ix ka) 8), .int (hs_P S (hb_ix ka) 9)] := hP.m 1 (hb_ix ka) hi2
  have e2_hb_ix_kahP : M (ad 2 (hb_ix ka)) = hw_ob 5 [.ref (ad 3 (hb_ix ka)), .ref (ad 4 (hb_ix ka)), .ref (ad 5 (hb_ix ka))] := hP.m 2 (hb_ix ka) hi2
  have e3_hb_ix_kahP : M (ad 3 (hb_ix ka)) = hw_al Z 8 (hs_C S (hb_ix ka)) := hP.m 3 (hb_ix ka) hi2
  have e4_hb_ix_kahP : M (ad 4 (hb_ix ka)) = hw_al Z 8 (hb_hang (hs_C S (hb_ix ka))) := hP.m 4 (hb_ix ka) hi2
  have e5_hb_ix_kahP : M (ad 5 (hb_ix ka)) = hw_al Z 8 (hb_supp (hs_C S (hb_ix ka))) := hP.m 5 (hb_ix ka) hi2
  have e6_hb_ix_kahP : M (ad 6 (hb_ix ka)) = hw_ob 2 [.ref (ad 7 (hb_ix ka)), .int (hs_P S (hb_ix ka) 1), .int (hs_P S (hb_ix ka) 2)] := hP.m 6 (hb_ix ka) hi2
  refine lv_astore_n (lv' := [(3, .ref (ad 1 (hb_ix ka))), (0, .ref (ad 0 0)), (1, .int ka), (2, .int (nI 9))]) hx hb dX5_ofPiece_5 rfl hl (by decide) rfl (fun ls hl => ?_)
  refine lv_iload_n hx hb dX5_ofPiece_6 rfl (lv_at hl 3 rfl) ?_
  refine lv_tableIn (tgt := 146) hx hb dX5_ofPiece_7 (by decide) (by decide) rfl (by decide) ?_
  refine lv_aload_n hx hb dX5_ofPiece_146 rfl (lv_at hl 0 rfl) ?_
  refine hw_get hx hb hts hown hk hI fd_X5_204 e1_hb_ix_kahP rfl dX5_ofPiece_147 ?_
  exact hret hI (⟨by unfold st_ofPiece; exact (if_neg (fun q => q hk2)).trans ((if_neg (fun q => q (by decide))).trans rfl), rfl⟩) (Nat.le_of_ble_eq_true rfl) (Nat.le_of_ble_eq_true rfl) dX5_ofPiece_150

set_option maxHeartbeats 4000000 in
set_option maxRecDepth 100000 in
theorem m_X5_ofPiece_10n (l : Launch) (hst : l.stackTraces = false) (Z : hw_Z) (M : hw_M) (ad : hp_ad) (S : hs_S) (T : hp_T) (b1 : Nat → Prop) (ka : Int32) (hP : hp_ok Z b1 M ad S T) (hB : hs_b S) (hm : hs_P S (hb_ix ka) 4 = -1) : vx_Met l yX5_ofPiece (hw_m yX5_ofPiece cX5_ofPiece 4 (some .int)) ({ frames := 9, cells := 6, slots := 36, locals := 190 } : Room) (va_Pc [.ref (ad 0 0), .int ka, .int (nI 10)] (hw_P Z M)) (hw_Qi Z (hq_N M S (st_ofPiece S ka (nI 10)))) (hw_X Z (hq_X ["java/lang/IndexOutOfBoundsException", "java/lang/IllegalArgumentException"] M S (st_ofPiece S ka (nI 10)))) 6 36 (hw_A Z) := by
  refine hw_xofi hst (by decide +kernel) rfl (Nat.le_of_ble_eq_true rfl) ?_
  intro p e s m below meth c ls Q hx hb hml hown hts hk hnm hI hl hret hxo hthr hthrW
  have hnp := hB.np
  have hnw := hB.nw
  have e0_0hP : M (ad 0 0) = hw_ob 6 [.ref (ad 0 1), .ref (ad 0 2), .ref (ad 0 3), .int (nI (hs_np S)), .int (nI (hs_nw S)), .int (hs_G S 0), .int (hs_G S 1), .ref (ad 0 4), .ref (ad 0 8)] := hP.m 0 0 (by decide)
  have e0_1hP : M (ad 0 1) = hw_ar Z 3 4 (fun j => some (ad 1 j)) := hP.m 0 1 (by decide)
  refine lv_aload_n hx hb dX5_ofPiece_0 rfl (lv_at hl 0 rfl) ?_
  refine lv_iload_n hx hb dX5_ofPiece_1 rfl (lv_at hl 1 rfl) ?_
  refine hw_xr hI hxo (hw_xV hx hb hml hown hts hk hI (m_X5_pieceAt l hst Z M (ad 0 0) (ad 0 1) (ad 0 2) (ad 0 3) (ad 0 4) (ad 0 8) (hs_np S) (hs_nw S) (hs_G S 0) (hs_G S 1) ka (ad 1) e0_0hP e0_1hP hnp) cv_X5_57 e0_0hP rfl rfl ⟨rfl, rfl⟩ ⟨(Nat.le_of_ble_eq_true rfl), (Nat.le_of_ble_eq_true rfl)⟩ rfl hl.1 rfl (Nat.le_of_ble_eq_true rfl) ⟨(Nat.le_of_ble_eq_true rfl), (Nat.le_of_ble_eq_true rfl)⟩ dX5_ofPiece_2) (hq_xc (c := 1) (fun h => by unfold st_ofPiece; exact (hq_if h ⟨rfl, rfl⟩)) ⟨by decide, rfl⟩) (Nat.le_of_ble_eq_true rfl) (Nat.le_of_ble_eq_true rfl) (fun r2 M2 H locs hR hI => ?_)
  obtain ⟨⟨hk2, rfl⟩, rfl⟩ := hR
  have hx2 := hb_okx (by omega) hk2
  have hi2 : hb_ix ka < 4 := by have := hx2.1; omega
  have e1_hb_ix_kahP : M (ad 1 (hb_ix ka)) = hw_ob 3 [.int (nI (hb_ix ka)), .ref (ad 2 (hb_ix ka)), .ref (ad 6 (hb_ix ka)), .int (hs_P S (hb_ix ka) 0), .int (nI (hs_D S (hb_ix ka))), .double (hs_U S (hb_ix ka)), .int (hs_P S (hb_ix ka) 3), .null, .int (hs_P S (hb_ix ka) 5), .int (hs_P S (hb_ix ka) 6), .int (hs_P S (hb_ix ka) 7), .int (hs_P S (hb_ix ka) 8), .int (hs_P S (hb_ix ka) 9)] := by
    have q := hP.m 1 (hb_ix ka) hi2
    rw [show hp_e Z ad S T 1 (hb_ix ka) = hw_ob 3 [.int (nI (hb_ix ka)), .ref (ad 2 (hb_ix ka)), .ref (ad 6 (hb_ix ka)), .int (hs_P S (hb_ix ka) 0), .int (nI (hs_D S (hb_ix ka))), .double (hs_U S (hb_ix ka)), .int (hs_P S (hb_ix ka) 3), hp_ref (ad 9) (hs_P S (hb_ix ka) 4), .int (hs_P S (hb_ix ka) 5), .int (hs_P S (hb_ix ka) 6), .int (hs_P S (hb_ix ka) 7), .int (hs_P S (hb_ix ka) 8), .int (hs_P S (hb_ix ka) 9)] from rfl] at q
    rw [hp_refn hm] at q
    exact q
  have e2_hb_ix_kahP : M (ad 2 (hb_ix ka)) = hw_ob 5 [.ref (ad 3 (hb_ix ka)), .ref (ad 4 (hb_ix ka)), .ref (ad 5 (hb_ix ka))] := hP.m 2 (hb_ix ka) hi2
  have e3_hb_ix_kahP : M (ad 3 (hb_ix ka)) = hw_al Z 8 (hs_C S (hb_ix ka)) := hP.m 3 (hb_ix ka) hi2
  have e4_hb_ix_kahP : M (ad 4 (hb_ix ka)) = hw_al Z 8 (hb_hang (hs_C S (hb_ix ka))) := hP.m 4 (hb_ix ka) hi2
  have e5_hb_ix_kahP : M (ad 5 (hb_ix ka)) = hw_al Z 8 (hb_supp (hs_C S (hb_ix ka))) := hP.m 5 (hb_ix ka) hi2
  have e6_hb_ix_kahP : M (ad 6 (hb_ix ka)) = hw_ob 2 [.ref (ad 7 (hb_ix ka)), .int (hs_P S (hb_ix ka) 1), .int (hs_P S (hb_ix ka) 2)] := hP.m 6 (hb_ix ka) hi2
  refine lv_astore_n (lv' := [(3, .ref (ad 1 (hb_ix ka))), (0, .ref (ad 0 0)), (1, .int ka), (2, .int (nI 10))]) hx hb dX5_ofPiece_5 rfl hl (by decide) rfl (fun ls hl => ?_)
  refine lv_iload_n hx hb dX5_ofPiece_6 rfl (lv_at hl 3 rfl) ?_
  refine lv_tableIn (tgt := 151) hx hb dX5_ofPiece_7 (by decide) (by decide) rfl (by decide) ?_
  refine lv_aload_n hx hb dX5_ofPiece_151 rfl (lv_at hl 0 rfl) ?_
  refine hw_get hx hb hts hown hk hI fd_X5_239 e1_hb_ix_kahP rfl dX5_ofPiece_152 ?_
  refine lv_ifnonnullN hx hb dX5_ofPiece_155 ?_
  refine lv_iconst (v := (-1)) hx hb dX5_ofPiece_158 (by decide) ?_
  refine lv_goto (tgt := 169) hx hb dX5_ofPiece_159 (by decide) ?_
  exact hret hI (⟨by unfold st_ofPiece; exact (if_neg (fun q => q hk2)).trans ((if_neg (fun q => q (by decide))).trans (hq_eq hm)), rfl⟩) (Nat.le_of_ble_eq_true rfl) (Nat.le_of_ble_eq_true rfl) dX5_ofPiece_169

set_option maxHeartbeats 4000000 in
set_option maxRecDepth 100000 in
theorem m_X5_ofPiece_10s (l : Launch) (hst : l.stackTraces = false) (Z : hw_Z) (M : hw_M) (ad : hp_ad) (S : hs_S) (T : hp_T) (b1 : Nat → Prop) (ka : Int32) (hP : hp_ok Z b1 M ad S T) (hB : hs_b S) (hm : ¬ hs_P S (hb_ix ka) 4 = -1) : vx_Met l yX5_ofPiece (hw_m yX5_ofPiece cX5_ofPiece 4 (some .int)) ({ frames := 9, cells := 6, slots := 36, locals := 190 } : Room) (va_Pc [.ref (ad 0 0), .int ka, .int (nI 10)] (hw_P Z M)) (hw_Qi Z (hq_N M S (st_ofPiece S ka (nI 10)))) (hw_X Z (hq_X ["java/lang/IndexOutOfBoundsException", "java/lang/IllegalArgumentException"] M S (st_ofPiece S ka (nI 10)))) 6 36 (hw_A Z) := by
  refine hw_xofi hst (by decide +kernel) rfl (Nat.le_of_ble_eq_true rfl) ?_
  intro p e s m below meth c ls Q hx hb hml hown hts hk hnm hI hl hret hxo hthr hthrW
  have hnp := hB.np
  have hnw := hB.nw
  have e0_0hP : M (ad 0 0) = hw_ob 6 [.ref (ad 0 1), .ref (ad 0 2), .ref (ad 0 3), .int (nI (hs_np S)), .int (nI (hs_nw S)), .int (hs_G S 0), .int (hs_G S 1), .ref (ad 0 4), .ref (ad 0 8)] := hP.m 0 0 (by decide)
  have e0_1hP : M (ad 0 1) = hw_ar Z 3 4 (fun j => some (ad 1 j)) := hP.m 0 1 (by decide)
  refine lv_aload_n hx hb dX5_ofPiece_0 rfl (lv_at hl 0 rfl) ?_
  refine lv_iload_n hx hb dX5_ofPiece_1 rfl (lv_at hl 1 rfl) ?_
  refine hw_xr hI hxo (hw_xV hx hb hml hown hts hk hI (m_X5_pieceAt l hst Z M (ad 0 0) (ad 0 1) (ad 0 2) (ad 0 3) (ad 0 4) (ad 0 8) (hs_np S) (hs_nw S) (hs_G S 0) (hs_G S 1) ka (ad 1) e0_0hP e0_1hP hnp) cv_X5_57 e0_0hP rfl rfl ⟨rfl, rfl⟩ ⟨(Nat.le_of_ble_eq_true rfl), (Nat.le_of_ble_eq_true rfl)⟩ rfl hl.1 rfl (Nat.le_of_ble_eq_true rfl) ⟨(Nat.le_of_ble_eq_true rfl), (Nat.le_of_ble_eq_true rfl)⟩ dX5_ofPiece_2) (hq_xc (c := 1) (fun h => by unfold st_ofPiece; exact (hq_if h ⟨rfl, rfl⟩)) ⟨by decide, rfl⟩) (Nat.le_of_ble_eq_true rfl) (Nat.le_of_ble_eq_true rfl) (fun r2 M2 H locs hR hI => ?_)
  obtain ⟨⟨hk2, rfl⟩, rfl⟩ := hR
  have hx2 := hb_okx (by omega) hk2
  have hi2 : hb_ix ka < 4 := by have := hx2.1; omega
  have hig : hb_ix (hs_P S (hb_ix ka) 4) < 2 := hB.pm hi2 hm
  have e1_hb_ix_kahP : M (ad 1 (hb_ix ka)) = hw_ob 3 [.int (nI (hb_ix ka)), .ref (ad 2 (hb_ix ka)), .ref (ad 6 (hb_ix ka)), .int (hs_P S (hb_ix ka) 0), .int (nI (hs_D S (hb_ix ka))), .double (hs_U S (hb_ix ka)), .int (hs_P S (hb_ix ka) 3), .ref (ad 9 (hb_ix (hs_P S (hb_ix ka) 4))), .int (hs_P S (hb_ix ka) 5), .int (hs_P S (hb_ix ka) 6), .int (hs_P S (hb_ix ka) 7), .int (hs_P S (hb_ix ka) 8), .int (hs_P S (hb_ix ka) 9)] := by
    have q := hP.m 1 (hb_ix ka) hi2
    rw [show hp_e Z ad S T 1 (hb_ix ka) = hw_ob 3 [.int (nI (hb_ix ka)), .ref (ad 2 (hb_ix ka)), .ref (ad 6 (hb_ix ka)), .int (hs_P S (hb_ix ka) 0), .int (nI (hs_D S (hb_ix ka))), .double (hs_U S (hb_ix ka)), .int (hs_P S (hb_ix ka) 3), hp_ref (ad 9) (hs_P S (hb_ix ka) 4), .int (hs_P S (hb_ix ka) 5), .int (hs_P S (hb_ix ka) 6), .int (hs_P S (hb_ix ka) 7), .int (hs_P S (hb_ix ka) 8), .int (hs_P S (hb_ix ka) 9)] from rfl] at q
    rw [hp_refs hm] at q
    exact q
  have e2_hb_ix_kahP : M (ad 2 (hb_ix ka)) = hw_ob 5 [.ref (ad 3 (hb_ix ka)), .ref (ad 4 (hb_ix ka)), .ref (ad 5 (hb_ix ka))] := hP.m 2 (hb_ix ka) hi2
  have e3_hb_ix_kahP : M (ad 3 (hb_ix ka)) = hw_al Z 8 (hs_C S (hb_ix ka)) := hP.m 3 (hb_ix ka) hi2
  have e4_hb_ix_kahP : M (ad 4 (hb_ix ka)) = hw_al Z 8 (hb_hang (hs_C S (hb_ix ka))) := hP.m 4 (hb_ix ka) hi2
  have e5_hb_ix_kahP : M (ad 5 (hb_ix ka)) = hw_al Z 8 (hb_supp (hs_C S (hb_ix ka))) := hP.m 5 (hb_ix ka) hi2
  have e6_hb_ix_kahP : M (ad 6 (hb_ix ka)) = hw_ob 2 [.ref (ad 7 (hb_ix ka)), .int (hs_P S (hb_ix ka) 1), .int (hs_P S (hb_ix ka) 2)] := hP.m 6 (hb_ix ka) hi2
  have e9_hb_ix_hs_P_S_hb_ix_ka_4hP : M (ad 9 (hb_ix (hs_P S (hb_ix ka) 4))) = hw_ob 1 [.int (nI (hb_ix (hs_P S (hb_ix ka) 4))), .int (hs_M S (hb_ix (hs_P S (hb_ix ka) 4)) 0), hp_ref (ad 8) (hs_M S (hb_ix (hs_P S (hb_ix ka) 4)) 1), .int (hs_M S (hb_ix (hs_P S (hb_ix ka) 4)) 2), hp_ref (ad 1) (hs_M S (hb_ix (hs_P S (hb_ix ka) 4)) 3), .ref (ad 10 (hb_ix (hs_P S (hb_ix ka) 4))), .int (nI (hs_N S (hb_ix (hs_P S (hb_ix ka) 4))))] := hP.m 9 (hb_ix (hs_P S (hb_ix ka) 4)) hig
  refine lv_astore_n (lv' := [(3, .ref (ad 1 (hb_ix ka))), (0, .ref (ad 0 0)), (1, .int ka), (2, .int (nI 10))]) hx hb dX5_ofPiece_5 rfl hl (by decide) rfl (fun ls hl => ?_)
  refine lv_iload_n hx hb dX5_ofPiece_6 rfl (lv_at hl 3 rfl) ?_
  refine lv_tableIn (tgt := 151) hx hb dX5_ofPiece_7 (by decide) (by decide) rfl (by decide) ?_
  refine lv_aload_n hx hb dX5_ofPiece_151 rfl (lv_at hl 0 rfl) ?_
  refine hw_get hx hb hts hown hk hI fd_X5_239 e1_hb_ix_kahP rfl dX5_ofPiece_152 ?_
  refine lv_ifnonnull (tgt := 162) hx hb dX5_ofPiece_155 (by decide) ?_
  refine lv_aload_n hx hb dX5_ofPiece_162 rfl (lv_at hl 0 rfl) ?_
  refine hw_get hx hb hts hown hk hI fd_X5_239 e1_hb_ix_kahP rfl dX5_ofPiece_163 ?_
  refine hw_get hx hb hts hown hk hI fd_X5_270 e9_hb_ix_hs_P_S_hb_ix_ka_4hP rfl dX5_ofPiece_166 ?_
  exact hret hI (⟨by unfold st_ofPiece; exact (if_neg (fun q => q hk2)).trans ((if_neg (fun q => q (by decide))).trans (hq_eq (hB.pmx hi2 hm).symm)), rfl⟩) (Nat.le_of_ble_eq_true rfl) (Nat.le_of_ble_eq_true rfl) dX5_ofPiece_169

theorem m_X5_ofPiece_10 (l : Launch) (hst : l.stackTraces = false) (Z : hw_Z) (M : hw_M) (ad : hp_ad) (S : hs_S) (T : hp_T) (b1 : Nat → Prop) (ka : Int32) (hP : hp_ok Z b1 M ad S T) (hB : hs_b S) : vx_Met l yX5_ofPiece (hw_m yX5_ofPiece cX5_ofPiece 4 (some .int)) ({ frames := 9, cells := 6, slots := 36, locals := 190 } : Room) (va_Pc [.ref (ad 0 0), .int ka, .int (nI 10)] (hw_P Z M)) (hw_Qi Z (hq_N M S (st_ofPiece S ka (nI 10)))) (hw_X Z (hq_X ["java/lang/IndexOutOfBoundsException", "java/lang/IllegalArgumentException"] M S (st_ofPiece S ka (nI 10)))) 6 36 (hw_A Z) := by
  by_cases hc : hs_P S (hb_ix ka) 4 = -1
  · exact m_X5_ofPiece_10n l hst Z M ad S T b1 ka hP hB hc
  · exact m_X5_ofPiece_10s l hst Z M ad S T b1 ka hP hB hc

set_option maxHeartbeats 4000000 in
set_option maxRecDepth 100000 in
theorem m_X5_ofPiece_11 (l : Launch) (hst : l.stackTraces = false) (Z : hw_Z) (M : hw_M) (ad : hp_ad) (S : hs_S) (T : hp_T) (b1 : Nat → Prop) (ka : Int32) (hP : hp_ok Z b1 M ad S T) (hB : hs_b S) : vx_Met l yX5_ofPiece (hw_m yX5_ofPiece cX5_ofPiece 4 (some .int)) ({ frames := 9, cells := 6, slots := 36, locals := 190 } : Room) (va_Pc [.ref (ad 0 0), .int ka, .int (nI 11)] (hw_P Z M)) (hw_Qi Z (hq_N M S (st_ofPiece S ka (nI 11)))) (hw_X Z (hq_X ["java/lang/IndexOutOfBoundsException", "java/lang/IllegalArgumentException"] M S (st_ofPiece S ka (nI 11)))) 6 36 (hw_A Z) := by
  refine hw_xofi hst (by decide +kernel) rfl (Nat.le_of_ble_eq_true rfl) ?_
  intro p e s m below meth c ls Q hx hb hml hown hts hk hnm hI hl hret hxo hthr hthrW
  have hnp := hB.np
  have hnw := hB.nw
  have e0_0hP : M (ad 0 0) = hw_ob 6 [.ref (ad 0 1), .ref (ad 0 2), .ref (ad 0 3), .int (nI (hs_np S)), .int (nI (hs_nw S)), .int (hs_G S 0), .int (hs_G S 1), .ref (ad 0 4), .ref (ad 0 8)] := hP.m 0 0 (by decide)
  have e0_1hP : M (ad 0 1) = hw_ar Z 3 4 (fun j => some (ad 1 j)) := hP.m 0 1 (by decide)
  refine lv_aload_n hx hb dX5_ofPiece_0 rfl (lv_at hl 0 rfl) ?_
  refine lv_iload_n hx hb dX5_ofPiece_1 rfl (lv_at hl 1 rfl) ?_
  refine hw_xr hI hxo (hw_xV hx hb hml hown hts hk hI (m_X5_pieceAt l hst Z M (ad 0 0) (ad 0 1) (ad 0 2) (ad 0 3) (ad 0 4) (ad 0 8) (hs_np S) (hs_nw S) (hs_G S 0) (hs_G S 1) ka (ad 1) e0_0hP e0_1hP hnp) cv_X5_57 e0_0hP rfl rfl ⟨rfl, rfl⟩ ⟨(Nat.le_of_ble_eq_true rfl), (Nat.le_of_ble_eq_true rfl)⟩ rfl hl.1 rfl (Nat.le_of_ble_eq_true rfl) ⟨(Nat.le_of_ble_eq_true rfl), (Nat.le_of_ble_eq_true rfl)⟩ dX5_ofPiece_2) (hq_xc (c := 1) (fun h => by unfold st_ofPiece; exact (hq_if h ⟨rfl, rfl⟩)) ⟨by decide, rfl⟩) (Nat.le_of_ble_eq_true rfl) (Nat.le_of_ble_eq_true rfl) (fun r2 M2 H locs hR hI => ?_)
  obtain ⟨⟨hk2, rfl⟩, rfl⟩ := hR
  have hx2 := hb_okx (by omega) hk2
  have hi2 : hb_ix ka < 4 := by have := hx2.1; omega
  have e1_hb_ix_kahP : M (ad 1 (hb_ix ka)) = hw_ob 3 [.int (nI (hb_ix ka)), .ref (ad 2 (hb_ix ka)), .ref (ad 6 (hb_ix ka)), .int (hs_P S (hb_ix ka) 0), .int (nI (hs_D S (hb_ix ka))), .double (hs_U S (hb_ix ka)), .int (hs_P S (hb_ix ka) 3), hp_ref (ad 9) (hs_P S (hb_ix ka) 4), .int (hs_P S (hb_ix ka) 5), .int (hs_P S (hb_ix ka) 6), .int (hs_P S (hb_ix ka) 7), .int (hs_P S (hb_ix ka) 8), .int (hs_P S (hb_ix ka) 9)] := hP.m 1 (hb_ix ka) hi2
  have e2_hb_ix_kahP : M (ad 2 (hb_ix ka)) = hw_ob 5 [.ref (ad 3 (hb_ix ka)), .ref (ad 4 (hb_ix ka)), .ref (ad 5 (hb_ix ka))] := hP.m 2 (hb_ix ka) hi2
  have e3_hb_ix_kahP : M (ad 3 (hb_ix ka)) = hw_al Z 8 (hs_C S (hb_ix ka)) := hP.m 3 (hb_ix ka) hi2
  have e4_hb_ix_kahP : M (ad 4 (hb_ix ka)) = hw_al Z 8 (hb_hang (hs_C S (hb_ix ka))) := hP.m 4 (hb_ix ka) hi2
  have e5_hb_ix_kahP : M (ad 5 (hb_ix ka)) = hw_al Z 8 (hb_supp (hs_C S (hb_ix ka))) := hP.m 5 (hb_ix ka) hi2
  have e6_hb_ix_kahP : M (ad 6 (hb_ix ka)) = hw_ob 2 [.ref (ad 7 (hb_ix ka)), .int (hs_P S (hb_ix ka) 1), .int (hs_P S (hb_ix ka) 2)] := hP.m 6 (hb_ix ka) hi2
  refine lv_astore_n (lv' := [(3, .ref (ad 1 (hb_ix ka))), (0, .ref (ad 0 0)), (1, .int ka), (2, .int (nI 11))]) hx hb dX5_ofPiece_5 rfl hl (by decide) rfl (fun ls hl => ?_)
  refine lv_iload_n hx hb dX5_ofPiece_6 rfl (lv_at hl 3 rfl) ?_
  refine lv_tableIn (tgt := 170) hx hb dX5_ofPiece_7 (by decide) (by decide) rfl (by decide) ?_
  refine lv_aload_n hx hb dX5_ofPiece_170 rfl (lv_at hl 0 rfl) ?_
  refine hw_get hx hb hts hown hk hI fd_X5_271 e1_hb_ix_kahP rfl dX5_ofPiece_171 ?_
  exact hret hI (⟨by unfold st_ofPiece; exact (if_neg (fun q => q hk2)).trans ((if_neg (fun q => q (by decide))).trans rfl), rfl⟩) (Nat.le_of_ble_eq_true rfl) (Nat.le_of_ble_eq_true rfl) dX5_ofPiece_174

set_option maxHeartbeats 4000000 in
set_option maxRecDepth 100000 in
theorem m_X5_ofPiece_12 (l : Launch) (hst : l.stackTraces = false) (Z : hw_Z) (M : hw_M) (ad : hp_ad) (S : hs_S) (T : hp_T) (b1 : Nat → Prop) (ka : Int32) (hP : hp_ok Z b1 M ad S T) (hB : hs_b S) : vx_Met l yX5_ofPiece (hw_m yX5_ofPiece cX5_ofPiece 4 (some .int)) ({ frames := 9, cells := 6, slots := 36, locals := 190 } : Room) (va_Pc [.ref (ad 0 0), .int ka, .int (nI 12)] (hw_P Z M)) (hw_Qi Z (hq_N M S (st_ofPiece S ka (nI 12)))) (hw_X Z (hq_X ["java/lang/IndexOutOfBoundsException", "java/lang/IllegalArgumentException"] M S (st_ofPiece S ka (nI 12)))) 6 36 (hw_A Z) := by
  refine hw_xofi hst (by decide +kernel) rfl (Nat.le_of_ble_eq_true rfl) ?_
  intro p e s m below meth c ls Q hx hb hml hown hts hk hnm hI hl hret hxo hthr hthrW
  have hnp := hB.np
  have hnw := hB.nw
  have e0_0hP : M (ad 0 0) = hw_ob 6 [.ref (ad 0 1), .ref (ad 0 2), .ref (ad 0 3), .int (nI (hs_np S)), .int (nI (hs_nw S)), .int (hs_G S 0), .int (hs_G S 1), .ref (ad 0 4), .ref (ad 0 8)] := hP.m 0 0 (by decide)
  have e0_1hP : M (ad 0 1) = hw_ar Z 3 4 (fun j => some (ad 1 j)) := hP.m 0 1 (by decide)
  refine lv_aload_n hx hb dX5_ofPiece_0 rfl (lv_at hl 0 rfl) ?_
  refine lv_iload_n hx hb dX5_ofPiece_1 rfl (lv_at hl 1 rfl) ?_
  refine hw_xr hI hxo (hw_xV hx hb hml hown hts hk hI (m_X5_pieceAt l hst Z M (ad 0 0) (ad 0 1) (ad 0 2) (ad 0 3) (ad 0 4) (ad 0 8) (hs_np S) (hs_nw S) (hs_G S 0) (hs_G S 1) ka (ad 1) e0_0hP e0_1hP hnp) cv_X5_57 e0_0hP rfl rfl ⟨rfl, rfl⟩ ⟨(Nat.le_of_ble_eq_true rfl), (Nat.le_of_ble_eq_true rfl)⟩ rfl hl.1 rfl (Nat.le_of_ble_eq_true rfl) ⟨(Nat.le_of_ble_eq_true rfl), (Nat.le_of_ble_eq_true rfl)⟩ dX5_ofPiece_2) (hq_xc (c := 1) (fun h => by unfold st_ofPiece; exact (hq_if h ⟨rfl, rfl⟩)) ⟨by decide, rfl⟩) (Nat.le_of_ble_eq_true rfl) (Nat.le_of_ble_eq_true rfl) (fun r2 M2 H locs hR hI => ?_)
  obtain ⟨⟨hk2, rfl⟩, rfl⟩ := hR
  have hx2 := hb_okx (by omega) hk2
  have hi2 : hb_ix ka < 4 := by have := hx2.1; omega
  have e1_hb_ix_kahP : M (ad 1 (hb_ix ka)) = hw_ob 3 [.int (nI (hb_ix ka)), .ref (ad 2 (hb_ix ka)), .ref (ad 6 (hb_ix ka)), .int (hs_P S (hb_ix ka) 0), .int (nI (hs_D S (hb_ix ka))), .double (hs_U S (hb_ix ka)), .int (hs_P S (hb_ix ka) 3), hp_ref (ad 9) (hs_P S (hb_ix ka) 4), .int (hs_P S (hb_ix ka) 5), .int (hs_P S (hb_ix ka) 6), .int (hs_P S (hb_ix ka) 7), .int (hs_P S (hb_ix ka) 8), .int (hs_P S (hb_ix ka) 9)] := hP.m 1 (hb_ix ka) hi2
  have e2_hb_ix_kahP : M (ad 2 (hb_ix ka)) = hw_ob 5 [.ref (ad 3 (hb_ix ka)), .ref (ad 4 (hb_ix ka)), .ref (ad 5 (hb_ix ka))] := hP.m 2 (hb_ix ka) hi2
  have e3_hb_ix_kahP : M (ad 3 (hb_ix ka)) = hw_al Z 8 (hs_C S (hb_ix ka)) := hP.m 3 (hb_ix ka) hi2
  have e4_hb_ix_kahP : M (ad 4 (hb_ix ka)) = hw_al Z 8 (hb_hang (hs_C S (hb_ix ka))) := hP.m 4 (hb_ix ka) hi2
  have e5_hb_ix_kahP : M (ad 5 (hb_ix ka)) = hw_al Z 8 (hb_supp (hs_C S (hb_ix ka))) := hP.m 5 (hb_ix ka) hi2
  have e6_hb_ix_kahP : M (ad 6 (hb_ix ka)) = hw_ob 2 [.ref (ad 7 (hb_ix ka)), .int (hs_P S (hb_ix ka) 1), .int (hs_P S (hb_ix ka) 2)] := hP.m 6 (hb_ix ka) hi2
  refine lv_astore_n (lv' := [(3, .ref (ad 1 (hb_ix ka))), (0, .ref (ad 0 0)), (1, .int ka), (2, .int (nI 12))]) hx hb dX5_ofPiece_5 rfl hl (by decide) rfl (fun ls hl => ?_)
  refine lv_iload_n hx hb dX5_ofPiece_6 rfl (lv_at hl 3 rfl) ?_
  refine lv_tableIn (tgt := 175) hx hb dX5_ofPiece_7 (by decide) (by decide) rfl (by decide) ?_
  refine lv_aload_n hx hb dX5_ofPiece_175 rfl (lv_at hl 0 rfl) ?_
  refine hw_get hx hb hts hown hk hI fd_X5_274 e1_hb_ix_kahP rfl dX5_ofPiece_176 ?_
  exact hret hI (⟨by unfold st_ofPiece; exact (if_neg (fun q => q hk2)).trans ((if_neg (fun q => q (by decide))).trans rfl), rfl⟩) (Nat.le_of_ble_eq_true rfl) (Nat.le_of_ble_eq_true rfl) dX5_ofPiece_179

set_option maxHeartbeats 4000000 in
set_option maxRecDepth 100000 in
theorem m_X5_ofPiece_13 (l : Launch) (hst : l.stackTraces = false) (Z : hw_Z) (M : hw_M) (ad : hp_ad) (S : hs_S) (T : hp_T) (b1 : Nat → Prop) (ka : Int32) (hP : hp_ok Z b1 M ad S T) (hB : hs_b S) : vx_Met l yX5_ofPiece (hw_m yX5_ofPiece cX5_ofPiece 4 (some .int)) ({ frames := 9, cells := 6, slots := 36, locals := 190 } : Room) (va_Pc [.ref (ad 0 0), .int ka, .int (nI 13)] (hw_P Z M)) (hw_Qi Z (hq_N M S (st_ofPiece S ka (nI 13)))) (hw_X Z (hq_X ["java/lang/IndexOutOfBoundsException", "java/lang/IllegalArgumentException"] M S (st_ofPiece S ka (nI 13)))) 6 36 (hw_A Z) := by
  refine hw_xofi hst (by decide +kernel) rfl (Nat.le_of_ble_eq_true rfl) ?_
  intro p e s m below meth c ls Q hx hb hml hown hts hk hnm hI hl hret hxo hthr hthrW
  have hnp := hB.np
  have hnw := hB.nw
  have e0_0hP : M (ad 0 0) = hw_ob 6 [.ref (ad 0 1), .ref (ad 0 2), .ref (ad 0 3), .int (nI (hs_np S)), .int (nI (hs_nw S)), .int (hs_G S 0), .int (hs_G S 1), .ref (ad 0 4), .ref (ad 0 8)] := hP.m 0 0 (by decide)
  have e0_1hP : M (ad 0 1) = hw_ar Z 3 4 (fun j => some (ad 1 j)) := hP.m 0 1 (by decide)
  refine lv_aload_n hx hb dX5_ofPiece_0 rfl (lv_at hl 0 rfl) ?_
  refine lv_iload_n hx hb dX5_ofPiece_1 rfl (lv_at hl 1 rfl) ?_
  refine hw_xr hI hxo (hw_xV hx hb hml hown hts hk hI (m_X5_pieceAt l hst Z M (ad 0 0) (ad 0 1) (ad 0 2) (ad 0 3) (ad 0 4) (ad 0 8) (hs_np S) (hs_nw S) (hs_G S 0) (hs_G S 1) ka (ad 1) e0_0hP e0_1hP hnp) cv_X5_57 e0_0hP rfl rfl ⟨rfl, rfl⟩ ⟨(Nat.le_of_ble_eq_true rfl), (Nat.le_of_ble_eq_true rfl)⟩ rfl hl.1 rfl (Nat.le_of_ble_eq_true rfl) ⟨(Nat.le_of_ble_eq_true rfl), (Nat.le_of_ble_eq_true rfl)⟩ dX5_ofPiece_2) (hq_xc (c := 1) (fun h => by unfold st_ofPiece; exact (hq_if h ⟨rfl, rfl⟩)) ⟨by decide, rfl⟩) (Nat.le_of_ble_eq_true rfl) (Nat.le_of_ble_eq_true rfl) (fun r2 M2 H locs hR hI => ?_)
  obtain ⟨⟨hk2, rfl⟩, rfl⟩ := hR
  have hx2 := hb_okx (by omega) hk2
  have hi2 : hb_ix ka < 4 := by have := hx2.1; omega
  have e1_hb_ix_kahP : M (ad 1 (hb_ix ka)) = hw_ob 3 [.int (nI (hb_ix ka)), .ref (ad 2 (hb_ix ka)), .ref (ad 6 (hb_ix ka)), .int (hs_P S (hb_ix ka) 0), .int (nI (hs_D S (hb_ix ka))), .double (hs_U S (hb_ix ka)), .int (hs_P S (hb_ix ka) 3), hp_ref (ad 9) (hs_P S (hb_ix ka) 4), .int (hs_P S (hb_ix ka) 5), .int (hs_P S (hb_ix ka) 6), .int (hs_P S (hb_ix ka) 7), .int (hs_P S (hb_ix ka) 8), .int (hs_P S (hb_ix ka) 9)] := hP.m 1 (hb_ix ka) hi2
  have e2_hb_ix_kahP : M (ad 2 (hb_ix ka)) = hw_ob 5 [.ref (ad 3 (hb_ix ka)), .ref (ad 4 (hb_ix ka)), .ref (ad 5 (hb_ix ka))] := hP.m 2 (hb_ix ka) hi2
  have e3_hb_ix_kahP : M (ad 3 (hb_ix ka)) = hw_al Z 8 (hs_C S (hb_ix ka)) := hP.m 3 (hb_ix ka) hi2
  have e4_hb_ix_kahP : M (ad 4 (hb_ix ka)) = hw_al Z 8 (hb_hang (hs_C S (hb_ix ka))) := hP.m 4 (hb_ix ka) hi2
  have e5_hb_ix_kahP : M (ad 5 (hb_ix ka)) = hw_al Z 8 (hb_supp (hs_C S (hb_ix ka))) := hP.m 5 (hb_ix ka) hi2
  have e6_hb_ix_kahP : M (ad 6 (hb_ix ka)) = hw_ob 2 [.ref (ad 7 (hb_ix ka)), .int (hs_P S (hb_ix ka) 1), .int (hs_P S (hb_ix ka) 2)] := hP.m 6 (hb_ix ka) hi2
  refine lv_astore_n (lv' := [(3, .ref (ad 1 (hb_ix ka))), (0, .ref (ad 0 0)), (1, .int ka), (2, .int (nI 13))]) hx hb dX5_ofPiece_5 rfl hl (by decide) rfl (fun ls hl => ?_)
  refine lv_iload_n hx hb dX5_ofPiece_6 rfl (lv_at hl 3 rfl) ?_
  refine lv_tableIn (tgt := 180) hx hb dX5_ofPiece_7 (by decide) (by decide) rfl (by decide) ?_
  refine lv_aload_n hx hb dX5_ofPiece_180 rfl (lv_at hl 0 rfl) ?_
  refine hw_get hx hb hts hown hk hI fd_X5_277 e1_hb_ix_kahP rfl dX5_ofPiece_181 ?_
  exact hret hI (⟨by unfold st_ofPiece; exact (if_neg (fun q => q hk2)).trans ((if_neg (fun q => q (by decide))).trans rfl), rfl⟩) (Nat.le_of_ble_eq_true rfl) (Nat.le_of_ble_eq_true rfl) dX5_ofPiece_184

set_option maxHeartbeats 4000000 in
set_option maxRecDepth 100000 in
theorem m_X5_ofPiece_14 (l : Launch) (hst : l.stackTraces = false) (Z : hw_Z) (M : hw_M) (ad : hp_ad) (S : hs_S) (T : hp_T) (b1 : Nat → Prop) (ka : Int32) (hP : hp_ok Z b1 M ad S T) (hB : hs_b S) : vx_Met l yX5_ofPiece (hw_m yX5_ofPiece cX5_ofPiece 4 (some .int)) ({ frames := 9, cells := 6, slots := 36, locals := 190 } : Room) (va_Pc [.ref (ad 0 0), .int ka, .int (nI 14)] (hw_P Z M)) (hw_Qi Z (hq_N M S (st_ofPiece S ka (nI 14)))) (hw_X Z (hq_X ["java/lang/IndexOutOfBoundsException", "java/lang/IllegalArgumentException"] M S (st_ofPiece S ka (nI 14)))) 6 36 (hw_A Z) := by
  refine hw_xofi hst (by decide +kernel) rfl (Nat.le_of_ble_eq_true rfl) ?_
  intro p e s m below meth c ls Q hx hb hml hown hts hk hnm hI hl hret hxo hthr hthrW
  have hnp := hB.np
  have hnw := hB.nw
  have e0_0hP : M (ad 0 0) = hw_ob 6 [.ref (ad 0 1), .ref (ad 0 2), .ref (ad 0 3), .int (nI (hs_np S)), .int (nI (hs_nw S)), .int (hs_G S 0), .int (hs_G S 1), .ref (ad 0 4), .ref (ad 0 8)] := hP.m 0 0 (by decide)
  have e0_1hP : M (ad 0 1) = hw_ar Z 3 4 (fun j => some (ad 1 j)) := hP.m 0 1 (by decide)
  refine lv_aload_n hx hb dX5_ofPiece_0 rfl (lv_at hl 0 rfl) ?_
  refine lv_iload_n hx hb dX5_ofPiece_1 rfl (lv_at hl 1 rfl) ?_
  refine hw_xr hI hxo (hw_xV hx hb hml hown hts hk hI (m_X5_pieceAt l hst Z M (ad 0 0) (ad 0 1) (ad 0 2) (ad 0 3) (ad 0 4) (ad 0 8) (hs_np S) (hs_nw S) (hs_G S 0) (hs_G S 1) ka (ad 1) e0_0hP e0_1hP hnp) cv_X5_57 e0_0hP rfl rfl ⟨rfl, rfl⟩ ⟨(Nat.le_of_ble_eq_true rfl), (Nat.le_of_ble_eq_true rfl)⟩ rfl hl.1 rfl (Nat.le_of_ble_eq_true rfl) ⟨(Nat.le_of_ble_eq_true rfl), (Nat.le_of_ble_eq_true rfl)⟩ dX5_ofPiece_2) (hq_xc (c := 1) (fun h => by unfold st_ofPiece; exact (hq_if h ⟨rfl, rfl⟩)) ⟨by decide, rfl⟩) (Nat.le_of_ble_eq_true rfl) (Nat.le_of_ble_eq_true rfl) (fun r2 M2 H locs hR hI => ?_)
  obtain ⟨⟨hk2, rfl⟩, rfl⟩ := hR
  have hx2 := hb_okx (by omega) hk2
  have hi2 : hb_ix ka < 4 := by have := hx2.1; omega
  have e1_hb_ix_kahP : M (ad 1 (hb_ix ka)) = hw_ob 3 [.int (nI (hb_ix ka)), .ref (ad 2 (hb_ix ka)), .ref (ad 6 (hb_ix ka)), .int (hs_P S (hb_ix ka) 0), .int (nI (hs_D S (hb_ix ka))), .double (hs_U S (hb_ix ka)), .int (hs_P S (hb_ix ka) 3), hp_ref (ad 9) (hs_P S (hb_ix ka) 4), .int (hs_P S (hb_ix ka) 5), .int (hs_P S (hb_ix ka) 6), .int (hs_P S (hb_ix ka) 7), .int (hs_P S (hb_ix ka) 8), .int (hs_P S (hb_ix ka) 9)] := hP.m 1 (hb_ix ka) hi2
  have e2_hb_ix_kahP : M (ad 2 (hb_ix ka)) = hw_ob 5 [.ref (ad 3 (hb_ix ka)), .ref (ad 4 (hb_ix ka)), .ref (ad 5 (hb_ix ka))] := hP.m 2 (hb_ix ka) hi2
  have e3_hb_ix_kahP : M (ad 3 (hb_ix ka)) = hw_al Z 8 (hs_C S (hb_ix ka)) := hP.m 3 (hb_ix ka) hi2
  have e4_hb_ix_kahP : M (ad 4 (hb_ix ka)) = hw_al Z 8 (hb_hang (hs_C S (hb_ix ka))) := hP.m 4 (hb_ix ka) hi2
  have e5_hb_ix_kahP : M (ad 5 (hb_ix ka)) = hw_al Z 8 (hb_supp (hs_C S (hb_ix ka))) := hP.m 5 (hb_ix ka) hi2
  have e6_hb_ix_kahP : M (ad 6 (hb_ix ka)) = hw_ob 2 [.ref (ad 7 (hb_ix ka)), .int (hs_P S (hb_ix ka) 1), .int (hs_P S (hb_ix ka) 2)] := hP.m 6 (hb_ix ka) hi2
  refine lv_astore_n (lv' := [(3, .ref (ad 1 (hb_ix ka))), (0, .ref (ad 0 0)), (1, .int ka), (2, .int (nI 14))]) hx hb dX5_ofPiece_5 rfl hl (by decide) rfl (fun ls hl => ?_)
  refine lv_iload_n hx hb dX5_ofPiece_6 rfl (lv_at hl 3 rfl) ?_
  refine lv_tableIn (tgt := 185) hx hb dX5_ofPiece_7 (by decide) (by decide) rfl (by decide) ?_
  refine lv_aload_n hx hb dX5_ofPiece_185 rfl (lv_at hl 0 rfl) ?_
  refine hw_get hx hb hts hown hk hI fd_X5_278 e1_hb_ix_kahP rfl dX5_ofPiece_186 ?_
  exact hret hI (⟨by unfold st_ofPiece; exact (if_neg (fun q => q hk2)).trans ((if_neg (fun q => q (by decide))).trans rfl), rfl⟩) (Nat.le_of_ble_eq_true rfl) (Nat.le_of_ble_eq_true rfl) dX5_ofPiece_189

set_option maxHeartbeats 4000000 in
set_option maxRecDepth 100000 in
theorem m_X5_ofPiece_k0 (l : Launch) (Z : hw_Z) (M : hw_M) (ad : hp_ad) (S : hs_S) (T : hp_T) (b1 : Nat → Prop) (i : Nat) (hP : hp_ok Z b1 M ad S T) (hB : hs_b S) (hi : i < hs_np S) : Met l yX5_ofPiece (hw_m yX5_ofPiece cX5_ofPiece 4 (some .int)) ({ frames := 9, cells := 0, slots := 0, locals := 190 } : Room) (va_Pc [.ref (ad 0 0), .int (nI i), .int (nI 0)] (hw_P Z M)) (hw_Qi Z (fun r M' => hs_op S i 0 = r ∧ M = M')) 0 0 (hw_A Z) := by
  refine hw_ofi (by decide +kernel) rfl (Nat.le_of_ble_eq_true rfl) ?_
  intro p e s m below meth c ls Q hx hb hml hown hts hk hnm hI hl hret
  have hnp := hB.np
  have hnw := hB.nw
  have e0_0hP : M (ad 0 0) = hw_ob 6 [.ref (ad 0 1), .ref (ad 0 2), .ref (ad 0 3), .int (nI (hs_np S)), .int (nI (hs_nw S)), .int (hs_G S 0), .int (hs_G S 1), .ref (ad 0 4), .ref (ad 0 8)] := hP.m 0 0 (by decide)
  have e0_1hP : M (ad 0 1) = hw_ar Z 3 4 (fun j => some (ad 1 j)) := hP.m 0 1 (by decide)
  refine lv_aload_n hx hb dX5_ofPiece_0 rfl (lv_at hl 0 rfl) ?_
  refine lv_iload_n hx hb dX5_ofPiece_1 rfl (lv_at hl 1 rfl) ?_
  refine hw_cr hI (hw_rV hx hb hml hown hts hk hI (m_X5_pieceAt_k l Z M (ad 0 0) (ad 0 1) (ad 0 2) (ad 0 3) (ad 0 4) (ad 0 8) (hs_np S) (hs_nw S) (hs_G S 0) (hs_G S 1) i (ad 1) e0_0hP e0_1hP hnp hi) cv_X5_57 e0_0hP rfl rfl ⟨rfl, rfl⟩ ⟨(Nat.le_of_ble_eq_true rfl), (Nat.le_of_ble_eq_true rfl)⟩ rfl hl.1 rfl (Nat.le_of_ble_eq_true rfl) ⟨(Nat.le_of_ble_eq_true rfl), (Nat.le_of_ble_eq_true rfl)⟩ dX5_ofPiece_2) (fun r2 M2 H locs hR hI => ?_)
  obtain ⟨rfl, rfl⟩ := hR
  have hi4 : i < 4 := by omega
  have e1_ihP : M (ad 1 i) = hw_ob 3 [.int (nI i), .ref (ad 2 i), .ref (ad 6 i), .int (hs_P S i 0), .int (nI (hs_D S i)), .double (hs_U S i), .int (hs_P S i 3), hp_ref (ad 9) (hs_P S i 4), .int (hs_P S i 5), .int (hs_P S i 6), .int (hs_P S i 7), .int (hs_P S i 8), .int (hs_P S i 9)] := hP.m 1 i hi4
  have e2_ihP : M (ad 2 i) = hw_ob 5 [.ref (ad 3 i), .ref (ad 4 i), .ref (ad 5 i)] := hP.m 2 i hi4
  have e3_ihP : M (ad 3 i) = hw_al Z 8 (hs_C S i) := hP.m 3 i hi4
  have e4_ihP : M (ad 4 i) = hw_al Z 8 (hb_hang (hs_C S i)) := hP.m 4 i hi4
  have e5_ihP : M (ad 5 i) = hw_al Z 8 (hb_supp (hs_C S i)) := hP.m 5 i hi4
  have e6_ihP : M (ad 6 i) = hw_ob 2 [.ref (ad 7 i), .int (hs_P S i 1), .int (hs_P S i 2)] := hP.m 6 i hi4
  refine lv_astore_n (lv' := [(3, .ref (ad 1 i)), (0, .ref (ad 0 0)), (1, .int (nI i)), (2, .int (nI 0))]) hx hb dX5_ofPiece_5 rfl hl (by decide) rfl (fun ls hl => ?_)
  refine lv_iload_n hx hb dX5_ofPiece_6 rfl (lv_at hl 3 rfl) ?_
  refine lv_tableIn (tgt := 80) hx hb dX5_ofPiece_7 (by decide) (by decide) rfl (by decide) ?_
  refine lv_aload_n hx hb dX5_ofPiece_80 rfl (lv_at hl 0 rfl) ?_
  refine hw_get hx hb hts hown hk hI fd_X5_171 e1_ihP rfl dX5_ofPiece_81 ?_
  exact hret hI (⟨rfl, rfl⟩) (Nat.le_of_ble_eq_true rfl) (Nat.le_of_ble_eq_true rfl) dX5_ofPiece_84

set_option maxHeartbeats 4000000 in
set_option maxRecDepth 100000 in
theorem m_X5_ofPiece_k1 (l : Launch) (Z : hw_Z) (M : hw_M) (ad : hp_ad) (S : hs_S) (T : hp_T) (b1 : Nat → Prop) (i : Nat) (hP : hp_ok Z b1 M ad S T) (hB : hs_b S) (hi : i < hs_np S) : Met l yX5_ofPiece (hw_m yX5_ofPiece cX5_ofPiece 4 (some .int)) ({ frames := 9, cells := 0, slots := 0, locals := 190 } : Room) (va_Pc [.ref (ad 0 0), .int (nI i), .int (nI 1)] (hw_P Z M)) (hw_Qi Z (fun r M' => hs_op S i 1 = r ∧ M = M')) 0 0 (hw_A Z) := by
  refine hw_ofi (by decide +kernel) rfl (Nat.le_of_ble_eq_true rfl) ?_
  intro p e s m below meth c ls Q hx hb hml hown hts hk hnm hI hl hret
  have hnp := hB.np
  have hnw := hB.nw
  have e0_0hP : M (ad 0 0) = hw_ob 6 [.ref (ad 0 1), .ref (ad 0 2), .ref (ad 0 3), .int (nI (hs_np S)), .int (nI (hs_nw S)), .int (hs_G S 0), .int (hs_G S 1), .ref (ad 0 4), .ref (ad 0 8)] := hP.m 0 0 (by decide)
  have e0_1hP : M (ad 0 1) = hw_ar Z 3 4 (fun j => some (ad 1 j)) := hP.m 0 1 (by decide)
  refine lv_aload_n hx hb dX5_ofPiece_0 rfl (lv_at hl 0 rfl) ?_
  refine lv_iload_n hx hb dX5_ofPiece_1 rfl (lv_at hl 1 rfl) ?_
  refine hw_cr hI (hw_rV hx hb hml hown hts hk hI (m_X5_pieceAt_k l Z M (ad 0 0) (ad 0 1) (ad 0 2) (ad 0 3) (ad 0 4) (ad 0 8) (hs_np S) (hs_nw S) (hs_G S 0) (hs_G S 1) i (ad 1) e0_0hP e0_1hP hnp hi) cv_X5_57 e0_0hP rfl rfl ⟨rfl, rfl⟩ ⟨(Nat.le_of_ble_eq_true rfl), (Nat.le_of_ble_eq_true rfl)⟩ rfl hl.1 rfl (Nat.le_of_ble_eq_true rfl) ⟨(Nat.le_of_ble_eq_true rfl), (Nat.le_of_ble_eq_true rfl)⟩ dX5_ofPiece_2) (fun r2 M2 H locs hR hI => ?_)
  obtain ⟨rfl, rfl⟩ := hR
  have hi4 : i < 4 := by omega
  have e1_ihP : M (ad 1 i) = hw_ob 3 [.int (nI i), .ref (ad 2 i), .ref (ad 6 i), .int (hs_P S i 0), .int (nI (hs_D S i)), .double (hs_U S i), .int (hs_P S i 3), hp_ref (ad 9) (hs_P S i 4), .int (hs_P S i 5), .int (hs_P S i 6), .int (hs_P S i 7), .int (hs_P S i 8), .int (hs_P S i 9)] := hP.m 1 i hi4
  have e2_ihP : M (ad 2 i) = hw_ob 5 [.ref (ad 3 i), .ref (ad 4 i), .ref (ad 5 i)] := hP.m 2 i hi4
  have e3_ihP : M (ad 3 i) = hw_al Z 8 (hs_C S i) := hP.m 3 i hi4
  have e4_ihP : M (ad 4 i) = hw_al Z 8 (hb_hang (hs_C S i)) := hP.m 4 i hi4
  have e5_ihP : M (ad 5 i) = hw_al Z 8 (hb_supp (hs_C S i)) := hP.m 5 i hi4
  have e6_ihP : M (ad 6 i) = hw_ob 2 [.ref (ad 7 i), .int (hs_P S i 1), .int (hs_P S i 2)] := hP.m 6 i hi4
  refine lv_astore_n (lv' := [(3, .ref (ad 1 i)), (0, .ref (ad 0 0)), (1, .int (nI i)), (2, .int (nI 1))]) hx hb dX5_ofPiece_5 rfl hl (by decide) rfl (fun ls hl => ?_)
  refine lv_iload_n hx hb dX5_ofPiece_6 rfl (lv_at hl 3 rfl) ?_
  refine lv_tableIn (tgt := 85) hx hb dX5_ofPiece_7 (by decide) (by decide) rfl (by decide) ?_
  refine lv_aload_n hx hb dX5_ofPiece_85 rfl (lv_at hl 0 rfl) ?_
  refine hw_get hx hb hts hown hk hI fd_X5_68 e1_ihP rfl dX5_ofPiece_86 ?_
  refine hw_ci hI (hw_rV hx hb hml hown hts hk hI (m_X4_height l Z M (ad 2 i) (ad 3 i) (ad 4 i) (ad 5 i) (hs_C S i) e2_ihP e3_ihP) cv_X5_92 e2_ihP rfl rfl ⟨rfl, rfl⟩ ⟨(Nat.le_of_ble_eq_true rfl), (Nat.le_of_ble_eq_true rfl)⟩ rfl hl.1 rfl (Nat.le_of_ble_eq_true rfl) ⟨(Nat.le_of_ble_eq_true rfl), (Nat.le_of_ble_eq_true rfl)⟩ dX5_ofPiece_89) (fun r89 M89 H locs hR hI => ?_)
  obtain ⟨rfl, rfl⟩ := hR
  exact hret hI (⟨rfl, rfl⟩) (Nat.le_of_ble_eq_true rfl) (Nat.le_of_ble_eq_true rfl) dX5_ofPiece_92

set_option maxHeartbeats 4000000 in
set_option maxRecDepth 100000 in
theorem m_X5_ofPiece_k2 (l : Launch) (Z : hw_Z) (M : hw_M) (ad : hp_ad) (S : hs_S) (T : hp_T) (b1 : Nat → Prop) (i : Nat) (hP : hp_ok Z b1 M ad S T) (hB : hs_b S) (hi : i < hs_np S) : Met l yX5_ofPiece (hw_m yX5_ofPiece cX5_ofPiece 4 (some .int)) ({ frames := 9, cells := 0, slots := 0, locals := 190 } : Room) (va_Pc [.ref (ad 0 0), .int (nI i), .int (nI 2)] (hw_P Z M)) (hw_Qi Z (fun r M' => hs_op S i 2 = r ∧ M = M')) 0 0 (hw_A Z) := by
  refine hw_ofi (by decide +kernel) rfl (Nat.le_of_ble_eq_true rfl) ?_
  intro p e s m below meth c ls Q hx hb hml hown hts hk hnm hI hl hret
  have hnp := hB.np
  have hnw := hB.nw
  have e0_0hP : M (ad 0 0) = hw_ob 6 [.ref (ad 0 1), .ref (ad 0 2), .ref (ad 0 3), .int (nI (hs_np S)), .int (nI (hs_nw S)), .int (hs_G S 0), .int (hs_G S 1), .ref (ad 0 4), .ref (ad 0 8)] := hP.m 0 0 (by decide)
  have e0_1hP : M (ad 0 1) = hw_ar Z 3 4 (fun j => some (ad 1 j)) := hP.m 0 1 (by decide)
  refine lv_aload_n hx hb dX5_ofPiece_0 rfl (lv_at hl 0 rfl) ?_
  refine lv_iload_n hx hb dX5_ofPiece_1 rfl (lv_at hl 1 rfl) ?_
  refine hw_cr hI (hw_rV hx hb hml hown hts hk hI (m_X5_pieceAt_k l Z M (ad 0 0) (ad 0 1) (ad 0 2) (ad 0 3) (ad 0 4) (ad 0 8) (hs_np S) (hs_nw S) (hs_G S 0) (hs_G S 1) i (ad 1) e0_0hP e0_1hP hnp hi) cv_X5_57 e0_0hP rfl rfl ⟨rfl, rfl⟩ ⟨(Nat.le_of_ble_eq_true rfl), (Nat.le_of_ble_eq_true rfl)⟩ rfl hl.1 rfl (Nat.le_of_ble_eq_true rfl) ⟨(Nat.le_of_ble_eq_true rfl), (Nat.le_of_ble_eq_true rfl)⟩ dX5_ofPiece_2) (fun r2 M2 H locs hR hI => ?_)
  obtain ⟨rfl, rfl⟩ := hR
  have hi4 : i < 4 := by omega
  have e1_ihP : M (ad 1 i) = hw_ob 3 [.int (nI i), .ref (ad 2 i), .ref (ad 6 i), .int (hs_P S i 0), .int (nI (hs_D S i)), .double (hs_U S i), .int (hs_P S i 3), hp_ref (ad 9) (hs_P S i 4), .int (hs_P S i 5), .int (hs_P S i 6), .int (hs_P S i 7), .int (hs_P S i 8), .int (hs_P S i 9)] := hP.m 1 i hi4
  have e2_ihP : M (ad 2 i) = hw_ob 5 [.ref (ad 3 i), .ref (ad 4 i), .ref (ad 5 i)] := hP.m 2 i hi4
  have e3_ihP : M (ad 3 i) = hw_al Z 8 (hs_C S i) := hP.m 3 i hi4
  have e4_ihP : M (ad 4 i) = hw_al Z 8 (hb_hang (hs_C S i)) := hP.m 4 i hi4
  have e5_ihP : M (ad 5 i) = hw_al Z 8 (hb_supp (hs_C S i)) := hP.m 5 i hi4
  have e6_ihP : M (ad 6 i) = hw_ob 2 [.ref (ad 7 i), .int (hs_P S i 1), .int (hs_P S i 2)] := hP.m 6 i hi4
  refine lv_astore_n (lv' := [(3, .ref (ad 1 i)), (0, .ref (ad 0 0)), (1, .int (nI i)), (2, .int (nI 2))]) hx hb dX5_ofPiece_5 rfl hl (by decide) rfl (fun ls hl => ?_)
  refine lv_iload_n hx hb dX5_ofPiece_6 rfl (lv_at hl 3 rfl) ?_
  refine lv_tableIn (tgt := 93) hx hb dX5_ofPiece_7 (by decide) (by decide) rfl (by decide) ?_
  refine lv_aload_n hx hb dX5_ofPiece_93 rfl (lv_at hl 0 rfl) ?_
  refine hw_get hx hb hts hown hk hI fd_X5_68 e1_ihP rfl dX5_ofPiece_94 ?_
  refine hw_ci hI (hw_rV hx hb hml hown hts hk hI (m_X4_cellCount l Z M (ad 2 i) (ad 3 i) (ad 4 i) (ad 5 i) (hs_C S i) e2_ihP e3_ihP) cv_X5_255 e2_ihP rfl rfl ⟨rfl, rfl⟩ ⟨(Nat.le_of_ble_eq_true rfl), (Nat.le_of_ble_eq_true rfl)⟩ rfl hl.1 rfl (Nat.le_of_ble_eq_true rfl) ⟨(Nat.le_of_ble_eq_true rfl), (Nat.le_of_ble_eq_true rfl)⟩ dX5_ofPiece_97) (fun r97 M97 H locs hR hI => ?_)
  obtain ⟨rfl, rfl⟩ := hR
  exact hret hI (⟨rfl, rfl⟩) (Nat.le_of_ble_eq_true rfl) (Nat.le_of_ble_eq_true rfl) dX5_ofPiece_100

set_option maxHeartbeats 4000000 in
set_option maxRecDepth 100000 in
theorem m_X5_ofPiece_k3 (l : Launch) (Z : hw_Z) (M : hw_M) (ad : hp_ad) (S : hs_S) (T : hp_T) (b1 : Nat → Prop) (i : Nat) (hP : hp_ok Z b1 M ad S T) (hB : hs_b S) (hi : i < hs_np S) : Met l yX5_ofPiece (hw_m yX5_ofPiece cX5_ofPiece 4 (some .int)) ({ frames := 9, cells := 0, slots := 0, locals := 190 } : Room) (va_Pc [.ref (ad 0 0), .int (nI i), .int (nI 3)] (hw_P Z M)) (hw_Qi Z (fun r M' => hs_op S i 3 = r ∧ M = M')) 0 0 (hw_A Z) := by
  refine hw_ofi (by decide +kernel) rfl (Nat.le_of_ble_eq_true rfl) ?_
  intro p e s m below meth c ls Q hx hb hml hown hts hk hnm hI hl hret
  have hnp := hB.np
  have hnw := hB.nw
  have e0_0hP : M (ad 0 0) = hw_ob 6 [.ref (ad 0 1), .ref (ad 0 2), .ref (ad 0 3), .int (nI (hs_np S)), .int (nI (hs_nw S)), .int (hs_G S 0), .int (hs_G S 1), .ref (ad 0 4), .ref (ad 0 8)] := hP.m 0 0 (by decide)
  have e0_1hP : M (ad 0 1) = hw_ar Z 3 4 (fun j => some (ad 1 j)) := hP.m 0 1 (by decide)
  refine lv_aload_n hx hb dX5_ofPiece_0 rfl (lv_at hl 0 rfl) ?_
  refine lv_iload_n hx hb dX5_ofPiece_1 rfl (lv_at hl 1 rfl) ?_
  refine hw_cr hI (hw_rV hx hb hml hown hts hk hI (m_X5_pieceAt_k l Z M (ad 0 0) (ad 0 1) (ad 0 2) (ad 0 3) (ad 0 4) (ad 0 8) (hs_np S) (hs_nw S) (hs_G S 0) (hs_G S 1) i (ad 1) e0_0hP e0_1hP hnp hi) cv_X5_57 e0_0hP rfl rfl ⟨rfl, rfl⟩ ⟨(Nat.le_of_ble_eq_true rfl), (Nat.le_of_ble_eq_true rfl)⟩ rfl hl.1 rfl (Nat.le_of_ble_eq_true rfl) ⟨(Nat.le_of_ble_eq_true rfl), (Nat.le_of_ble_eq_true rfl)⟩ dX5_ofPiece_2) (fun r2 M2 H locs hR hI => ?_)
  obtain ⟨rfl, rfl⟩ := hR
  have hi4 : i < 4 := by omega
  have e1_ihP : M (ad 1 i) = hw_ob 3 [.int (nI i), .ref (ad 2 i), .ref (ad 6 i), .int (hs_P S i 0), .int (nI (hs_D S i)), .double (hs_U S i), .int (hs_P S i 3), hp_ref (ad 9) (hs_P S i 4), .int (hs_P S i 5), .int (hs_P S i 6), .int (hs_P S i 7), .int (hs_P S i 8), .int (hs_P S i 9)] := hP.m 1 i hi4
  have e2_ihP : M (ad 2 i) = hw_ob 5 [.ref (ad 3 i), .ref (ad 4 i), .ref (ad 5 i)] := hP.m 2 i hi4
  have e3_ihP : M (ad 3 i) = hw_al Z 8 (hs_C S i) := hP.m 3 i hi4
  have e4_ihP : M (ad 4 i) = hw_al Z 8 (hb_hang (hs_C S i)) := hP.m 4 i hi4
  have e5_ihP : M (ad 5 i) = hw_al Z 8 (hb_supp (hs_C S i)) := hP.m 5 i hi4
  have e6_ihP : M (ad 6 i) = hw_ob 2 [.ref (ad 7 i), .int (hs_P S i 1), .int (hs_P S i 2)] := hP.m 6 i hi4
  refine lv_astore_n (lv' := [(3, .ref (ad 1 i)), (0, .ref (ad 0 0)), (1, .int (nI i)), (2, .int (nI 3))]) hx hb dX5_ofPiece_5 rfl hl (by decide) rfl (fun ls hl => ?_)
  refine lv_iload_n hx hb dX5_ofPiece_6 rfl (lv_at hl 3 rfl) ?_
  refine lv_tableIn (tgt := 101) hx hb dX5_ofPiece_7 (by decide) (by decide) rfl (by decide) ?_
  refine lv_aload_n hx hb dX5_ofPiece_101 rfl (lv_at hl 0 rfl) ?_
  refine hw_get hx hb hts hown hk hI fd_X5_68 e1_ihP rfl dX5_ofPiece_102 ?_
  refine hw_ci hI (hw_rV hx hb hml hown hts hk hI (m_X4_hangingCount l Z M (ad 2 i) (ad 3 i) (ad 4 i) (ad 5 i) (hb_hang (hs_C S i)) e2_ihP e4_ihP) cv_X5_258 e2_ihP rfl rfl ⟨rfl, rfl⟩ ⟨(Nat.le_of_ble_eq_true rfl), (Nat.le_of_ble_eq_true rfl)⟩ rfl hl.1 rfl (Nat.le_of_ble_eq_true rfl) ⟨(Nat.le_of_ble_eq_true rfl), (Nat.le_of_ble_eq_true rfl)⟩ dX5_ofPiece_105) (fun r105 M105 H locs hR hI => ?_)
  obtain ⟨rfl, rfl⟩ := hR
  exact hret hI (⟨rfl, rfl⟩) (Nat.le_of_ble_eq_true rfl) (Nat.le_of_ble_eq_true rfl) dX5_ofPiece_108

set_option maxHeartbeats 4000000 in
set_option maxRecDepth 100000 in
theorem m_X5_ofPiece_k4 (l : Launch) (Z : hw_Z) (M : hw_M) (ad : hp_ad) (S : hs_S) (T : hp_T) (b1 : Nat → Prop) (i : Nat) (hP : hp_ok Z b1 M ad S T) (hB : hs_b S) (hi : i < hs_np S) : Met l yX5_ofPiece (hw_m yX5_ofPiece cX5_ofPiece 4 (some .int)) ({ frames := 9, cells := 0, slots := 0, locals := 190 } : Room) (va_Pc [.ref (ad 0 0), .int (nI i), .int (nI 4)] (hw_P Z M)) (hw_Qi Z (fun r M' => hs_op S i 4 = r ∧ M = M')) 0 0 (hw_A Z) := by
  refine hw_ofi (by decide +kernel) rfl (Nat.le_of_ble_eq_true rfl) ?_
  intro p e s m below meth c ls Q hx hb hml hown hts hk hnm hI hl hret
  have hnp := hB.np
  have hnw := hB.nw
  have e0_0hP : M (ad 0 0) = hw_ob 6 [.ref (ad 0 1), .ref (ad 0 2), .ref (ad 0 3), .int (nI (hs_np S)), .int (nI (hs_nw S)), .int (hs_G S 0), .int (hs_G S 1), .ref (ad 0 4), .ref (ad 0 8)] := hP.m 0 0 (by decide)
  have e0_1hP : M (ad 0 1) = hw_ar Z 3 4 (fun j => some (ad 1 j)) := hP.m 0 1 (by decide)
  refine lv_aload_n hx hb dX5_ofPiece_0 rfl (lv_at hl 0 rfl) ?_
  refine lv_iload_n hx hb dX5_ofPiece_1 rfl (lv_at hl 1 rfl) ?_
  refine hw_cr hI (hw_rV hx hb hml hown hts hk hI (m_X5_pieceAt_k l Z M (ad 0 0) (ad 0 1) (ad 0 2) (ad 0 3) (ad 0 4) (ad 0 8) (hs_np S) (hs_nw S) (hs_G S 0) (hs_G S 1) i (ad 1) e0_0hP e0_1hP hnp hi) cv_X5_57 e0_0hP rfl rfl ⟨rfl, rfl⟩ ⟨(Nat.le_of_ble_eq_true rfl), (Nat.le_of_ble_eq_true rfl)⟩ rfl hl.1 rfl (Nat.le_of_ble_eq_true rfl) ⟨(Nat.le_of_ble_eq_true rfl), (Nat.le_of_ble_eq_true rfl)⟩ dX5_ofPiece_2) (fun r2 M2 H locs hR hI => ?_)
  obtain ⟨rfl, rfl⟩ := hR
  have hi4 : i < 4 := by omega
  have e1_ihP : M (ad 1 i) = hw_ob 3 [.int (nI i), .ref (ad 2 i), .ref (ad 6 i), .int (hs_P S i 0), .int (nI (hs_D S i)), .double (hs_U S i), .int (hs_P S i 3), hp_ref (ad 9) (hs_P S i 4), .int (hs_P S i 5), .int (hs_P S i 6), .int (hs_P S i 7), .int (hs_P S i 8), .int (hs_P S i 9)] := hP.m 1 i hi4
  have e2_ihP : M (ad 2 i) = hw_ob 5 [.ref (ad 3 i), .ref (ad 4 i), .ref (ad 5 i)] := hP.m 2 i hi4
  have e3_ihP : M (ad 3 i) = hw_al Z 8 (hs_C S i) := hP.m 3 i hi4
  have e4_ihP : M (ad 4 i) = hw_al Z 8 (hb_hang (hs_C S i)) := hP.m 4 i hi4
  have e5_ihP : M (ad 5 i) = hw_al Z 8 (hb_supp (hs_C S i)) := hP.m 5 i hi4
  have e6_ihP : M (ad 6 i) = hw_ob 2 [.ref (ad 7 i), .int (hs_P S i 1), .int (hs_P S i 2)] := hP.m 6 i hi4
  refine lv_astore_n (lv' := [(3, .ref (ad 1 i)), (0, .ref (ad 0 0)), (1, .int (nI i)), (2, .int (nI 4))]) hx hb dX5_ofPiece_5 rfl hl (by decide) rfl (fun ls hl => ?_)
  refine lv_iload_n hx hb dX5_ofPiece_6 rfl (lv_at hl 3 rfl) ?_
  refine lv_tableIn (tgt := 109) hx hb dX5_ofPiece_7 (by decide) (by decide) rfl (by decide) ?_
  refine lv_aload_n hx hb dX5_ofPiece_109 rfl (lv_at hl 0 rfl) ?_
  refine hw_get hx hb hts hown hk hI fd_X5_68 e1_ihP rfl dX5_ofPiece_110 ?_
  refine hw_ci hI (hw_rV hx hb hml hown hts hk hI (m_X4_islandCount l Z M (ad 2 i) (ad 3 i) (ad 4 i) (ad 5 i) (hs_C S i) e2_ihP e3_ihP) cv_X5_261 e2_ihP rfl rfl ⟨rfl, rfl⟩ ⟨(Nat.le_of_ble_eq_true rfl), (Nat.le_of_ble_eq_true rfl)⟩ rfl hl.1 rfl (Nat.le_of_ble_eq_true rfl) ⟨(Nat.le_of_ble_eq_true rfl), (Nat.le_of_ble_eq_true rfl)⟩ dX5_ofPiece_113) (fun r113 M113 H locs hR hI => ?_)
  obtain ⟨rfl, rfl⟩ := hR
  exact hret hI (⟨rfl, rfl⟩) (Nat.le_of_ble_eq_true rfl) (Nat.le_of_ble_eq_true rfl) dX5_ofPiece_116

set_option maxHeartbeats 4000000 in
set_option maxRecDepth 100000 in
theorem m_X5_ofPiece_k5 (l : Launch) (Z : hw_Z) (M : hw_M) (ad : hp_ad) (S : hs_S) (T : hp_T) (b1 : Nat → Prop) (i : Nat) (hP : hp_ok Z b1 M ad S T) (hB : hs_b S) (hi : i < hs_np S) : Met l yX5_ofPiece (hw_m yX5_ofPiece cX5_ofPiece 4 (some .int)) ({ frames := 9, cells := 0, slots := 0, locals := 190 } : Room) (va_Pc [.ref (ad 0 0), .int (nI i), .int (nI 5)] (hw_P Z M)) (hw_Qi Z (fun r M' => hs_op S i 5 = r ∧ M = M')) 0 0 (hw_A Z) := by
  refine hw_ofi (by decide +kernel) rfl (Nat.le_of_ble_eq_true rfl) ?_
  intro p e s m below meth c ls Q hx hb hml hown hts hk hnm hI hl hret
  have hnp := hB.np
  have hnw := hB.nw
  have e0_0hP : M (ad 0 0) = hw_ob 6 [.ref (ad 0 1), .ref (ad 0 2), .ref (ad 0 3), .int (nI (hs_np S)), .int (nI (hs_nw S)), .int (hs_G S 0), .int (hs_G S 1), .ref (ad 0 4), .ref (ad 0 8)] := hP.m 0 0 (by decide)
  have e0_1hP : M (ad 0 1) = hw_ar Z 3 4 (fun j => some (ad 1 j)) := hP.m 0 1 (by decide)
  refine lv_aload_n hx hb dX5_ofPiece_0 rfl (lv_at hl 0 rfl) ?_
  refine lv_iload_n hx hb dX5_ofPiece_1 rfl (lv_at hl 1 rfl) ?_
  refine hw_cr hI (hw_rV hx hb hml hown hts hk hI (m_X5_pieceAt_k l Z M (ad 0 0) (ad 0 1) (ad 0 2) (ad 0 3) (ad 0 4) (ad 0 8) (hs_np S) (hs_nw S) (hs_G S 0) (hs_G S 1) i (ad 1) e0_0hP e0_1hP hnp hi) cv_X5_57 e0_0hP rfl rfl ⟨rfl, rfl⟩ ⟨(Nat.le_of_ble_eq_true rfl), (Nat.le_of_ble_eq_true rfl)⟩ rfl hl.1 rfl (Nat.le_of_ble_eq_true rfl) ⟨(Nat.le_of_ble_eq_true rfl), (Nat.le_of_ble_eq_true rfl)⟩ dX5_ofPiece_2) (fun r2 M2 H locs hR hI => ?_)
  obtain ⟨rfl, rfl⟩ := hR
  have hi4 : i < 4 := by omega
  have e1_ihP : M (ad 1 i) = hw_ob 3 [.int (nI i), .ref (ad 2 i), .ref (ad 6 i), .int (hs_P S i 0), .int (nI (hs_D S i)), .double (hs_U S i), .int (hs_P S i 3), hp_ref (ad 9) (hs_P S i 4), .int (hs_P S i 5), .int (hs_P S i 6), .int (hs_P S i 7), .int (hs_P S i 8), .int (hs_P S i 9)] := hP.m 1 i hi4
  have e2_ihP : M (ad 2 i) = hw_ob 5 [.ref (ad 3 i), .ref (ad 4 i), .ref (ad 5 i)] := hP.m 2 i hi4
  have e3_ihP : M (ad 3 i) = hw_al Z 8 (hs_C S i) := hP.m 3 i hi4
  have e4_ihP : M (ad 4 i) = hw_al Z 8 (hb_hang (hs_C S i)) := hP.m 4 i hi4
  have e5_ihP : M (ad 5 i) = hw_al Z 8 (hb_supp (hs_C S i)) := hP.m 5 i hi4
  have e6_ihP : M (ad 6 i) = hw_ob 2 [.ref (ad 7 i), .int (hs_P S i 1), .int (hs_P S i 2)] := hP.m 6 i hi4
  refine lv_astore_n (lv' := [(3, .ref (ad 1 i)), (0, .ref (ad 0 0)), (1, .int (nI i)), (2, .int (nI 5))]) hx hb dX5_ofPiece_5 rfl hl (by decide) rfl (fun ls hl => ?_)
  refine lv_iload_n hx hb dX5_ofPiece_6 rfl (lv_at hl 3 rfl) ?_
  refine lv_tableIn (tgt := 117) hx hb dX5_ofPiece_7 (by decide) (by decide) rfl (by decide) ?_
  refine lv_aload_n hx hb dX5_ofPiece_117 rfl (lv_at hl 0 rfl) ?_
  refine hw_get hx hb hts hown hk hI fd_X5_68 e1_ihP rfl dX5_ofPiece_118 ?_
  refine hw_ci hI (hw_rV hx hb hml hown hts hk hI (m_X4_supportCount l Z M (ad 2 i) (ad 3 i) (ad 4 i) (ad 5 i) (hb_supp (hs_C S i)) e2_ihP e5_ihP) cv_X5_264 e2_ihP rfl rfl ⟨rfl, rfl⟩ ⟨(Nat.le_of_ble_eq_true rfl), (Nat.le_of_ble_eq_true rfl)⟩ rfl hl.1 rfl (Nat.le_of_ble_eq_true rfl) ⟨(Nat.le_of_ble_eq_true rfl), (Nat.le_of_ble_eq_true rfl)⟩ dX5_ofPiece_121) (fun r121 M121 H locs hR hI => ?_)
  obtain ⟨rfl, rfl⟩ := hR
  exact hret hI (⟨rfl, rfl⟩) (Nat.le_of_ble_eq_true rfl) (Nat.le_of_ble_eq_true rfl) dX5_ofPiece_124

set_option maxHeartbeats 4000000 in
set_option maxRecDepth 100000 in
theorem m_X5_ofPiece_k6 (l : Launch) (Z : hw_Z) (M : hw_M) (ad : hp_ad) (S : hs_S) (T : hp_T) (b1 : Nat → Prop) (i : Nat) (hP : hp_ok Z b1 M ad S T) (hB : hs_b S) (hi : i < hs_np S) : Met l yX5_ofPiece (hw_m yX5_ofPiece cX5_ofPiece 4 (some .int)) ({ frames := 9, cells := 0, slots := 0, locals := 190 } : Room) (va_Pc [.ref (ad 0 0), .int (nI i), .int (nI 6)] (hw_P Z M)) (hw_Qi Z (fun r M' => hs_op S i 6 = r ∧ M = M')) 0 0 (hw_A Z) := by
  refine hw_ofi (by decide +kernel) rfl (Nat.le_of_ble_eq_true rfl) ?_
  intro p e s m below meth c ls Q hx hb hml hown hts hk hnm hI hl hret
  have hnp := hB.np
  have hnw := hB.nw
  have e0_0hP : M (ad 0 0) = hw_ob 6 [.ref (ad 0 1), .ref (ad 0 2), .ref (ad 0 3), .int (nI (hs_np S)), .int (nI (hs_nw S)), .int (hs_G S 0), .int (hs_G S 1), .ref (ad 0 4), .ref (ad 0 8)] := hP.m 0 0 (by decide)
  have e0_1hP : M (ad 0 1) = hw_ar Z 3 4 (fun j => some (ad 1 j)) := hP.m 0 1 (by decide)
  refine lv_aload_n hx hb dX5_ofPiece_0 rfl (lv_at hl 0 rfl) ?_
  refine lv_iload_n hx hb dX5_ofPiece_1 rfl (lv_at hl 1 rfl) ?_
  refine hw_cr hI (hw_rV hx hb hml hown hts hk hI (m_X5_pieceAt_k l Z M (ad 0 0) (ad 0 1) (ad 0 2) (ad 0 3) (ad 0 4) (ad 0 8) (hs_np S) (hs_nw S) (hs_G S 0) (hs_G S 1) i (ad 1) e0_0hP e0_1hP hnp hi) cv_X5_57 e0_0hP rfl rfl ⟨rfl, rfl⟩ ⟨(Nat.le_of_ble_eq_true rfl), (Nat.le_of_ble_eq_true rfl)⟩ rfl hl.1 rfl (Nat.le_of_ble_eq_true rfl) ⟨(Nat.le_of_ble_eq_true rfl), (Nat.le_of_ble_eq_true rfl)⟩ dX5_ofPiece_2) (fun r2 M2 H locs hR hI => ?_)
  obtain ⟨rfl, rfl⟩ := hR
  have hi4 : i < 4 := by omega
  have e1_ihP : M (ad 1 i) = hw_ob 3 [.int (nI i), .ref (ad 2 i), .ref (ad 6 i), .int (hs_P S i 0), .int (nI (hs_D S i)), .double (hs_U S i), .int (hs_P S i 3), hp_ref (ad 9) (hs_P S i 4), .int (hs_P S i 5), .int (hs_P S i 6), .int (hs_P S i 7), .int (hs_P S i 8), .int (hs_P S i 9)] := hP.m 1 i hi4
  have e2_ihP : M (ad 2 i) = hw_ob 5 [.ref (ad 3 i), .ref (ad 4 i), .ref (ad 5 i)] := hP.m 2 i hi4
  have e3_ihP : M (ad 3 i) = hw_al Z 8 (hs_C S i) := hP.m 3 i hi4
  have e4_ihP : M (ad 4 i) = hw_al Z 8 (hb_hang (hs_C S i)) := hP.m 4 i hi4
  have e5_ihP : M (ad 5 i) = hw_al Z 8 (hb_supp (hs_C S i)) := hP.m 5 i hi4
  have e6_ihP : M (ad 6 i) = hw_ob 2 [.ref (ad 7 i), .int (hs_P S i 1), .int (hs_P S i 2)] := hP.m 6 i hi4
  refine lv_astore_n (lv' := [(3, .ref (ad 1 i)), (0, .ref (ad 0 0)), (1, .int (nI i)), (2, .int (nI 6))]) hx hb dX5_ofPiece_5 rfl hl (by decide) rfl (fun ls hl => ?_)
  refine lv_iload_n hx hb dX5_ofPiece_6 rfl (lv_at hl 3 rfl) ?_
  refine lv_tableIn (tgt := 125) hx hb dX5_ofPiece_7 (by decide) (by decide) rfl (by decide) ?_
  refine lv_aload_n hx hb dX5_ofPiece_125 rfl (lv_at hl 0 rfl) ?_
  refine hw_get hx hb hts hown hk hI fd_X5_207 e1_ihP rfl dX5_ofPiece_126 ?_
  exact hret hI (⟨rfl, rfl⟩) (Nat.le_of_ble_eq_true rfl) (Nat.le_of_ble_eq_true rfl) dX5_ofPiece_129

set_option maxHeartbeats 4000000 in
set_option maxRecDepth 100000 in
theorem m_X5_ofPiece_k7 (l : Launch) (Z : hw_Z) (M : hw_M) (ad : hp_ad) (S : hs_S) (T : hp_T) (b1 : Nat → Prop) (i : Nat) (hP : hp_ok Z b1 M ad S T) (hB : hs_b S) (hi : i < hs_np S) : Met l yX5_ofPiece (hw_m yX5_ofPiece cX5_ofPiece 4 (some .int)) ({ frames := 9, cells := 0, slots := 0, locals := 190 } : Room) (va_Pc [.ref (ad 0 0), .int (nI i), .int (nI 7)] (hw_P Z M)) (hw_Qi Z (fun r M' => hs_op S i 7 = r ∧ M = M')) 0 0 (hw_A Z) := by
  refine hw_ofi (by decide +kernel) rfl (Nat.le_of_ble_eq_true rfl) ?_
  intro p e s m below meth c ls Q hx hb hml hown hts hk hnm hI hl hret
  have hnp := hB.np
  have hnw := hB.nw
  have e0_0hP : M (ad 0 0) = hw_ob 6 [.ref (ad 0 1), .ref (ad 0 2), .ref (ad 0 3), .int (nI (hs_np S)), .int (nI (hs_nw S)), .int (hs_G S 0), .int (hs_G S 1), .ref (ad 0 4), .ref (ad 0 8)] := hP.m 0 0 (by decide)
  have e0_1hP : M (ad 0 1) = hw_ar Z 3 4 (fun j => some (ad 1 j)) := hP.m 0 1 (by decide)
  refine lv_aload_n hx hb dX5_ofPiece_0 rfl (lv_at hl 0 rfl) ?_
  refine lv_iload_n hx hb dX5_ofPiece_1 rfl (lv_at hl 1 rfl) ?_
  refine hw_cr hI (hw_rV hx hb hml hown hts hk hI (m_X5_pieceAt_k l Z M (ad 0 0) (ad 0 1) (ad 0 2) (ad 0 3) (ad 0 4) (ad 0 8) (hs_np S) (hs_nw S) (hs_G S 0) (hs_G S 1) i (ad 1) e0_0hP e0_1hP hnp hi) cv_X5_57 e0_0hP rfl rfl ⟨rfl, rfl⟩ ⟨(Nat.le_of_ble_eq_true rfl), (Nat.le_of_ble_eq_true rfl)⟩ rfl hl.1 rfl (Nat.le_of_ble_eq_true rfl) ⟨(Nat.le_of_ble_eq_true rfl), (Nat.le_of_ble_eq_true rfl)⟩ dX5_ofPiece_2) (fun r2 M2 H locs hR hI => ?_)
  obtain ⟨rfl, rfl⟩ := hR
  have hi4 : i < 4 := by omega
  have e1_ihP : M (ad 1 i) = hw_ob 3 [.int (nI i), .ref (ad 2 i), .ref (ad 6 i), .int (hs_P S i 0), .int (nI (hs_D S i)), .double (hs_U S i), .int (hs_P S i 3), hp_ref (ad 9) (hs_P S i 4), .int (hs_P S i 5), .int (hs_P S i 6), .int (hs_P S i 7), .int (hs_P S i 8), .int (hs_P S i 9)] := hP.m 1 i hi4
  have e2_ihP : M (ad 2 i) = hw_ob 5 [.ref (ad 3 i), .ref (ad 4 i), .ref (ad 5 i)] := hP.m 2 i hi4
  have e3_ihP : M (ad 3 i) = hw_al Z 8 (hs_C S i) := hP.m 3 i hi4
  have e4_ihP : M (ad 4 i) = hw_al Z 8 (hb_hang (hs_C S i)) := hP.m 4 i hi4
  have e5_ihP : M (ad 5 i) = hw_al Z 8 (hb_supp (hs_C S i)) := hP.m 5 i hi4
  have e6_ihP : M (ad 6 i) = hw_ob 2 [.ref (ad 7 i), .int (hs_P S i 1), .int (hs_P S i 2)] := hP.m 6 i hi4
  refine lv_astore_n (lv' := [(3, .ref (ad 1 i)), (0, .ref (ad 0 0)), (1, .int (nI i)), (2, .int (nI 7))]) hx hb dX5_ofPiece_5 rfl hl (by decide) rfl (fun ls hl => ?_)
  refine lv_iload_n hx hb dX5_ofPiece_6 rfl (lv_at hl 3 rfl) ?_
  refine lv_tableIn (tgt := 130) hx hb dX5_ofPiece_7 (by decide) (by decide) rfl (by decide) ?_
  refine lv_aload_n hx hb dX5_ofPiece_130 rfl (lv_at hl 0 rfl) ?_
  refine hw_get hx hb hts hown hk hI fd_X5_198 e1_ihP rfl dX5_ofPiece_131 ?_
  refine hw_get hx hb hts hown hk hI fd_X5_229 e6_ihP rfl dX5_ofPiece_134 ?_
  exact hret hI (⟨rfl, rfl⟩) (Nat.le_of_ble_eq_true rfl) (Nat.le_of_ble_eq_true rfl) dX5_ofPiece_137

set_option maxHeartbeats 4000000 in
set_option maxRecDepth 100000 in
theorem m_X5_ofPiece_k8 (l : Launch) (Z : hw_Z) (M : hw_M) (ad : hp_ad) (S : hs_S) (T : hp_T) (b1 : Nat → Prop) (i : Nat) (hP : hp_ok Z b1 M ad S T) (hB : hs_b S) (hi : i < hs_np S) : Met l yX5_ofPiece (hw_m yX5_ofPiece cX5_ofPiece 4 (some .int)) ({ frames := 9, cells := 0, slots := 0, locals := 190 } : Room) (va_Pc [.ref (ad 0 0), .int (nI i), .int (nI 8)] (hw_P Z M)) (hw_Qi Z (fun r M' => hs_op S i 8 = r ∧ M = M')) 0 0 (hw_A Z) := by
  refine hw_ofi (by decide +kernel) rfl (Nat.le_of_ble_eq_true rfl) ?_
  intro p e s m below meth c ls Q hx hb hml hown hts hk hnm hI hl hret
  have hnp := hB.np
  have hnw := hB.nw
  have e0_0hP : M (ad 0 0) = hw_ob 6 [.ref (ad 0 1), .ref (ad 0 2), .ref (ad 0 3), .int (nI (hs_np S)), .int (nI (hs_nw S)), .int (hs_G S 0), .int (hs_G S 1), .ref (ad 0 4), .ref (ad 0 8)] := hP.m 0 0 (by decide)
  have e0_1hP : M (ad 0 1) = hw_ar Z 3 4 (fun j => some (ad 1 j)) := hP.m 0 1 (by decide)
  refine lv_aload_n hx hb dX5_ofPiece_0 rfl (lv_at hl 0 rfl) ?_
  refine lv_iload_n hx hb dX5_ofPiece_1 rfl (lv_at hl 1 rfl) ?_
  refine hw_cr hI (hw_rV hx hb hml hown hts hk hI (m_X5_pieceAt_k l Z M (ad 0 0) (ad 0 1) (ad 0 2) (ad 0 3) (ad 0 4) (ad 0 8) (hs_np S) (hs_nw S) (hs_G S 0) (hs_G S 1) i (ad 1) e0_0hP e0_1hP hnp hi) cv_X5_57 e0_0hP rfl rfl ⟨rfl, rfl⟩ ⟨(Nat.le_of_ble_eq_true rfl), (Nat.le_of_ble_eq_true rfl)⟩ rfl hl.1 rfl (Nat.le_of_ble_eq_true rfl) ⟨(Nat.le_of_ble_eq_true rfl), (Nat.le_of_ble_eq_true rfl)⟩ dX5_ofPiece_2) (fun r2 M2 H locs hR hI => ?_)
  obtain ⟨rfl, rfl⟩ := hR
  have hi4 : i < 4 := by omega
  have e1_ihP : M (ad 1 i) = hw_ob 3 [.int (nI i), .ref (ad 2 i), .ref (ad 6 i), .int (hs_P S i 0), .int (nI (hs_D S i)), .double (hs_U S i), .int (hs_P S i 3), hp_ref (ad 9) (hs_P S i 4), .int (hs_P S i 5), .int (hs_P S i 6), .int (hs_P S i 7), .int (hs_P S i 8), .int (hs_P S i 9)] := hP.m 1 i hi4
  have e2_ihP : M (ad 2 i) = hw_ob 5 [.ref (ad 3 i), .ref (ad 4 i), .ref (ad 5 i)] := hP.m 2 i hi4
  have e3_ihP : M (ad 3 i) = hw_al Z 8 (hs_C S i) := hP.m 3 i hi4
  have e4_ihP : M (ad 4 i) = hw_al Z 8 (hb_hang (hs_C S i)) := hP.m 4 i hi4
  have e5_ihP : M (ad 5 i) = hw_al Z 8 (hb_supp (hs_C S i)) := hP.m 5 i hi4
  have e6_ihP : M (ad 6 i) = hw_ob 2 [.ref (ad 7 i), .int (hs_P S i 1), .int (hs_P S i 2)] := hP.m 6 i hi4
  refine lv_astore_n (lv' := [(3, .ref (ad 1 i)), (0, .ref (ad 0 0)), (1, .int (nI i)), (2, .int (nI 8))]) hx hb dX5_ofPiece_5 rfl hl (by decide) rfl (fun ls hl => ?_)
  refine lv_iload_n hx hb dX5_ofPiece_6 rfl (lv_at hl 3 rfl) ?_
  refine lv_tableIn (tgt := 138) hx hb dX5_ofPiece_7 (by decide) (by decide) rfl (by decide) ?_
  refine lv_aload_n hx hb dX5_ofPiece_138 rfl (lv_at hl 0 rfl) ?_
  refine hw_get hx hb hts hown hk hI fd_X5_198 e1_ihP rfl dX5_ofPiece_139 ?_
  refine hw_get hx hb hts hown hk hI fd_X5_267 e6_ihP rfl dX5_ofPiece_142 ?_
  exact hret hI (⟨rfl, rfl⟩) (Nat.le_of_ble_eq_true rfl) (Nat.le_of_ble_eq_true rfl) dX5_ofPiece_145

set_option maxHeartbeats 4000000 in
set_option maxRecDepth 100000 in
theorem m_X5_ofPiece_k9 (l : Launch) (Z : hw_Z) (M : hw_M) (ad : hp_ad) (S : hs_S) (T : hp_T) (b1 : Nat → Prop) (i : Nat) (hP : hp_ok Z b1 M ad S T) (hB : hs_b S) (hi : i < hs_np S) : Met l yX5_ofPiece (hw_m yX5_ofPiece cX5_ofPiece 4 (some .int)) ({ frames := 9, cells := 0, slots := 0, locals := 190 } : Room) (va_Pc [.ref (ad 0 0), .int (nI i), .int (nI 9)] (hw_P Z M)) (hw_Qi Z (fun r M' => hs_op S i 9 = r ∧ M = M')) 0 0 (hw_A Z) := by
  refine hw_ofi (by decide +kernel) rfl (Nat.le_of_ble_eq_true rfl) ?_
  intro p e s m below meth c ls Q hx hb hml hown hts hk hnm hI hl hret
  have hnp := hB.np
  have hnw := hB.nw
  have e0_0hP : M (ad 0 0) = hw_ob 6 [.ref (ad 0 1), .ref (ad 0 2), .ref (ad 0 3), .int (nI (hs_np S)), .int (nI (hs_nw S)), .int (hs_G S 0), .int (hs_G S 1), .ref (ad 0 4), .ref (ad 0 8)] := hP.m 0 0 (by decide)
  have e0_1hP : M (ad 0 1) = hw_ar Z 3 4 (fun j => some (ad 1 j)) := hP.m 0 1 (by decide)
  refine lv_aload_n hx hb dX5_ofPiece_0 rfl (lv_at hl 0 rfl) ?_
  refine lv_iload_n hx hb dX5_ofPiece_1 rfl (lv_at hl 1 rfl) ?_
  refine hw_cr hI (hw_rV hx hb hml hown hts hk hI (m_X5_pieceAt_k l Z M (ad 0 0) (ad 0 1) (ad 0 2) (ad 0 3) (ad 0 4) (ad 0 8) (hs_np S) (hs_nw S) (hs_G S 0) (hs_G S 1) i (ad 1) e0_0hP e0_1hP hnp hi) cv_X5_57 e0_0hP rfl rfl ⟨rfl, rfl⟩ ⟨(Nat.le_of_ble_eq_true rfl), (Nat.le_of_ble_eq_true rfl)⟩ rfl hl.1 rfl (Nat.le_of_ble_eq_true rfl) ⟨(Nat.le_of_ble_eq_true rfl), (Nat.le_of_ble_eq_true rfl)⟩ dX5_ofPiece_2) (fun r2 M2 H locs hR hI => ?_)
  obtain ⟨rfl, rfl⟩ := hR
  have hi4 : i < 4 := by omega
  have e1_ihP : M (ad 1 i) = hw_ob 3 [.int (nI i), .ref (ad 2 i), .ref (ad 6 i), .int (hs_P S i 0), .int (nI (hs_D S i)), .double (hs_U S i), .int (hs_P S i 3), hp_ref (ad 9) (hs_P S i 4), .int (hs_P S i 5), .int (hs_P S i 6), .int (hs_P S i 7), .int (hs_P S i 8), .int (hs_P S i 9)] := hP.m 1 i hi4
  have e2_ihP : M (ad 2 i) = hw_ob 5 [.ref (ad 3 i), .ref (ad 4 i), .ref (ad 5 i)] := hP.m 2 i hi4
  have e3_ihP : M (ad 3 i) = hw_al Z 8 (hs_C S i) := hP.m 3 i hi4
  have e4_ihP : M (ad 4 i) = hw_al Z 8 (hb_hang (hs_C S i)) := hP.m 4 i hi4
  have e5_ihP : M (ad 5 i) = hw_al Z 8 (hb_supp (hs_C S i)) := hP.m 5 i hi4
  have e6_ihP : M (ad 6 i) = hw_ob 2 [.ref (ad 7 i), .int (hs_P S i 1), .int (hs_P S i 2)] := hP.m 6 i hi4
  refine lv_astore_n (lv' := [(3, .ref (ad 1 i)), (0, .ref (ad 0 0)), (1, .int (nI i)), (2, .int (nI 9))]) hx hb dX5_ofPiece_5 rfl hl (by decide) rfl (fun ls hl => ?_)
  refine lv_iload_n hx hb dX5_ofPiece_6 rfl (lv_at hl 3 rfl) ?_
  refine lv_tableIn (tgt := 146) hx hb dX5_ofPiece_7 (by decide) (by decide) rfl (by decide) ?_
  refine lv_aload_n hx hb dX5_ofPiece_146 rfl (lv_at hl 0 rfl) ?_
  refine hw_get hx hb hts hown hk hI fd_X5_204 e1_ihP rfl dX5_ofPiece_147 ?_
  exact hret hI (⟨rfl, rfl⟩) (Nat.le_of_ble_eq_true rfl) (Nat.le_of_ble_eq_true rfl) dX5_ofPiece_150

set_option maxHeartbeats 4000000 in
set_option maxRecDepth 100000 in
theorem m_X5_ofPiece_k10n (l : Launch) (Z : hw_Z) (M : hw_M) (ad : hp_ad) (S : hs_S) (T : hp_T) (b1 : Nat → Prop) (i : Nat) (hP : hp_ok Z b1 M ad S T) (hB : hs_b S) (hi : i < hs_np S) (hm : hs_P S i 4 = -1) : Met l yX5_ofPiece (hw_m yX5_ofPiece cX5_ofPiece 4 (some .int)) ({ frames := 9, cells := 0, slots := 0, locals := 190 } : Room) (va_Pc [.ref (ad 0 0), .int (nI i), .int (nI 10)] (hw_P Z M)) (hw_Qi Z (fun r M' => hs_op S i 10 = r ∧ M = M')) 0 0 (hw_A Z) := by
  refine hw_ofi (by decide +kernel) rfl (Nat.le_of_ble_eq_true rfl) ?_
  intro p e s m below meth c ls Q hx hb hml hown hts hk hnm hI hl hret
  have hnp := hB.np
  have hnw := hB.nw
  have e0_0hP : M (ad 0 0) = hw_ob 6 [.ref (ad 0 1), .ref (ad 0 2), .ref (ad 0 3), .int (nI (hs_np S)), .int (nI (hs_nw S)), .int (hs_G S 0), .int (hs_G S 1), .ref (ad 0 4), .ref (ad 0 8)] := hP.m 0 0 (by decide)
  have e0_1hP : M (ad 0 1) = hw_ar Z 3 4 (fun j => some (ad 1 j)) := hP.m 0 1 (by decide)
  refine lv_aload_n hx hb dX5_ofPiece_0 rfl (lv_at hl 0 rfl) ?_
  refine lv_iload_n hx hb dX5_ofPiece_1 rfl (lv_at hl 1 rfl) ?_
  refine hw_cr hI (hw_rV hx hb hml hown hts hk hI (m_X5_pieceAt_k l Z M (ad 0 0) (ad 0 1) (ad 0 2) (ad 0 3) (ad 0 4) (ad 0 8) (hs_np S) (hs_nw S) (hs_G S 0) (hs_G S 1) i (ad 1) e0_0hP e0_1hP hnp hi) cv_X5_57 e0_0hP rfl rfl ⟨rfl, rfl⟩ ⟨(Nat.le_of_ble_eq_true rfl), (Nat.le_of_ble_eq_true rfl)⟩ rfl hl.1 rfl (Nat.le_of_ble_eq_true rfl) ⟨(Nat.le_of_ble_eq_true rfl), (Nat.le_of_ble_eq_true rfl)⟩ dX5_ofPiece_2) (fun r2 M2 H locs hR hI => ?_)
  obtain ⟨rfl, rfl⟩ := hR
  have hi4 : i < 4 := by omega
  have e1_ihP : M (ad 1 i) = hw_ob 3 [.int (nI i), .ref (ad 2 i), .ref (ad 6 i), .int (hs_P S i 0), .int (nI (hs_D S i)), .double (hs_U S i), .int (hs_P S i 3), .null, .int (hs_P S i 5), .int (hs_P S i 6), .int (hs_P S i 7), .int (hs_P S i 8), .int (hs_P S i 9)] := by
    have q := hP.m 1 i hi4
    rw [show hp_e Z ad S T 1 i = hw_ob 3 [.int (nI i), .ref (ad 2 i), .ref (ad 6 i), .int (hs_P S i 0), .int (nI (hs_D S i)), .double (hs_U S i), .int (hs_P S i 3), hp_ref (ad 9) (hs_P S i 4), .int (hs_P S i 5), .int (hs_P S i 6), .int (hs_P S i 7), .int (hs_P S i 8), .int (hs_P S i 9)] from rfl] at q
    rw [hp_refn hm] at q
    exact q
  have e2_ihP : M (ad 2 i) = hw_ob 5 [.ref (ad 3 i), .ref (ad 4 i), .ref (ad 5 i)] := hP.m 2 i hi4
  have e3_ihP : M (ad 3 i) = hw_al Z 8 (hs_C S i) := hP.m 3 i hi4
  have e4_ihP : M (ad 4 i) = hw_al Z 8 (hb_hang (hs_C S i)) := hP.m 4 i hi4
  have e5_ihP : M (ad 5 i) = hw_al Z 8 (hb_supp (hs_C S i)) := hP.m 5 i hi4
  have e6_ihP : M (ad 6 i) = hw_ob 2 [.ref (ad 7 i), .int (hs_P S i 1), .int (hs_P S i 2)] := hP.m 6 i hi4
  refine lv_astore_n (lv' := [(3, .ref (ad 1 i)), (0, .ref (ad 0 0)), (1, .int (nI i)), (2, .int (nI 10))]) hx hb dX5_ofPiece_5 rfl hl (by decide) rfl (fun ls hl => ?_)
  refine lv_iload_n hx hb dX5_ofPiece_6 rfl (lv_at hl 3 rfl) ?_
  refine lv_tableIn (tgt := 151) hx hb dX5_ofPiece_7 (by decide) (by decide) rfl (by decide) ?_
  refine lv_aload_n hx hb dX5_ofPiece_151 rfl (lv_at hl 0 rfl) ?_
  refine hw_get hx hb hts hown hk hI fd_X5_239 e1_ihP rfl dX5_ofPiece_152 ?_
  refine lv_ifnonnullN hx hb dX5_ofPiece_155 ?_
  refine lv_iconst (v := (-1)) hx hb dX5_ofPiece_158 (by decide) ?_
  refine lv_goto (tgt := 169) hx hb dX5_ofPiece_159 (by decide) ?_
  exact hret hI (⟨hm, rfl⟩) (Nat.le_of_ble_eq_true rfl) (Nat.le_of_ble_eq_true rfl) dX5_ofPiece_169

set_option maxHeartbeats 4000000 in
set_option maxRecDepth 100000 in
theorem m_X5_ofPiece_k10s (l : Launch) (Z : hw_Z) (M : hw_M) (ad : hp_ad) (S : hs_S) (T : hp_T) (b1 : Nat → Prop) (i : Nat) (hP : hp_ok Z b1 M ad S T) (hB : hs_b S) (hi : i < hs_np S) (hm : ¬ hs_P S i 4 = -1) : Met l yX5_ofPiece (hw_m yX5_ofPiece cX5_ofPiece 4 (some .int)) ({ frames := 9, cells := 0, slots := 0, locals := 190 } : Room) (va_Pc [.ref (ad 0 0), .int (nI i), .int (nI 10)] (hw_P Z M)) (hw_Qi Z (fun r M' => hs_op S i 10 = r ∧ M = M')) 0 0 (hw_A Z) := by
  refine hw_ofi (by decide +kernel) rfl (Nat.le_of_ble_eq_true rfl) ?_
  intro p e s m below meth c ls Q hx hb hml hown hts hk hnm hI hl hret
  have hnp := hB.np
  have hnw := hB.nw
  have e0_0hP : M (ad 0 0) = hw_ob 6 [.ref (ad 0 1), .ref (ad 0 2), .ref (ad 0 3), .int (nI (hs_np S)), .int (nI (hs_nw S)), .int (hs_G S 0), .int (hs_G S 1), .ref (ad 0 4), .ref (ad 0 8)] := hP.m 0 0 (by decide)
  have e0_1hP : M (ad 0 1) = hw_ar Z 3 4 (fun j => some (ad 1 j)) := hP.m 0 1 (by decide)
  refine lv_aload_n hx hb dX5_ofPiece_0 rfl (lv_at hl 0 rfl) ?_
  refine lv_iload_n hx hb dX5_ofPiece_1 rfl (lv_at hl 1 rfl) ?_
  refine hw_cr hI (hw_rV hx hb hml hown hts hk hI (m_X5_pieceAt_k l Z M (ad 0 0) (ad 0 1) (ad 0 2) (ad 0 3) (ad 0 4) (ad 0 8) (hs_np S) (hs_nw S) (hs_G S 0) (hs_G S 1) i (ad 1) e0_0hP e0_1hP hnp hi) cv_X5_57 e0_0hP rfl rfl ⟨rfl, rfl⟩ ⟨(Nat.le_of_ble_eq_true rfl), (Nat.le_of_ble_eq_true rfl)⟩ rfl hl.1 rfl (Nat.le_of_ble_eq_true rfl) ⟨(Nat.le_of_ble_eq_true rfl), (Nat.le_of_ble_eq_true rfl)⟩ dX5_ofPiece_2) (fun r2 M2 H locs hR hI => ?_)
  obtain ⟨rfl, rfl⟩ := hR
  have hi4 : i < 4 := by omega
  have hig : hb_ix (hs_P S i 4) < 2 := hB.pm hi4 hm
  have e1_ihP : M (ad 1 i) = hw_ob 3 [.int (nI i), .ref (ad 2 i), .ref (ad 6 i), .int (hs_P S i 0), .int (nI (hs_D S i)), .double (hs_U S i), .int (hs_P S i 3), .ref (ad 9 (hb_ix (hs_P S i 4))), .int (hs_P S i 5), .int (hs_P S i 6), .int (hs_P S i 7), .int (hs_P S i 8), .int (hs_P S i 9)] := by
    have q := hP.m 1 i hi4
    rw [show hp_e Z ad S T 1 i = hw_ob 3 [.int (nI i), .ref (ad 2 i), .ref (ad 6 i), .int (hs_P S i 0), .int (nI (hs_D S i)), .double (hs_U S i), .int (hs_P S i 3), hp_ref (ad 9) (hs_P S i 4), .int (hs_P S i 5), .int (hs_P S i 6), .int (hs_P S i 7), .int (hs_P S i 8), .int (hs_P S i 9)] from rfl] at q
    rw [hp_refs hm] at q
    exact q
  have e2_ihP : M (ad 2 i) = hw_ob 5 [.ref (ad 3 i), .ref (ad 4 i), .ref (ad 5 i)] := hP.m 2 i hi4
  have e3_ihP : M (ad 3 i) = hw_al Z 8 (hs_C S i) := hP.m 3 i hi4
  have e4_ihP : M (ad 4 i) = hw_al Z 8 (hb_hang (hs_C S i)) := hP.m 4 i hi4
  have e5_ihP : M (ad 5 i) = hw_al Z 8 (hb_supp (hs_C S i)) := hP.m 5 i hi4
  have e6_ihP : M (ad 6 i) = hw_ob 2 [.ref (ad 7 i), .int (hs_P S i 1), .int (hs_P S i 2)] := hP.m 6 i hi4
  have e9_hb_ix_hs_P_S_i_4hP : M (ad 9 (hb_ix (hs_P S i 4))) = hw_ob 1 [.int (nI (hb_ix (hs_P S i 4))), .int (hs_M S (hb_ix (hs_P S i 4)) 0), hp_ref (ad 8) (hs_M S (hb_ix (hs_P S i 4)) 1), .int (hs_M S (hb_ix (hs_P S i 4)) 2), hp_ref (ad 1) (hs_M S (hb_ix (hs_P S i 4)) 3), .ref (ad 10 (hb_ix (hs_P S i 4))), .int (nI (hs_N S (hb_ix (hs_P S i 4))))] := hP.m 9 (hb_ix (hs_P S i 4)) hig
  refine lv_astore_n (lv' := [(3, .ref (ad 1 i)), (0, .ref (ad 0 0)), (1, .int (nI i)), (2, .int (nI 10))]) hx hb dX5_ofPiece_5 rfl hl (by decide) rfl (fun ls hl => ?_)
  refine lv_iload_n hx hb dX5_ofPiece_6 rfl (lv_at hl 3 rfl) ?_
  refine lv_tableIn (tgt := 151) hx hb dX5_ofPiece_7 (by decide) (by decide) rfl (by decide) ?_
  refine lv_aload_n hx hb dX5_ofPiece_151 rfl (lv_at hl 0 rfl) ?_
  refine hw_get hx hb hts hown hk hI fd_X5_239 e1_ihP rfl dX5_ofPiece_152 ?_
  refine lv_ifnonnull (tgt := 162) hx hb dX5_ofPiece_155 (by decide) ?_
  refine lv_aload_n hx hb dX5_ofPiece_162 rfl (lv_at hl 0 rfl) ?_
  refine hw_get hx hb hts hown hk hI fd_X5_239 e1_ihP rfl dX5_ofPiece_163 ?_
  refine hw_get hx hb hts hown hk hI fd_X5_270 e9_hb_ix_hs_P_S_i_4hP rfl dX5_ofPiece_166 ?_
  exact hret hI (⟨(hB.pmx hi4 hm).symm, rfl⟩) (Nat.le_of_ble_eq_true rfl) (Nat.le_of_ble_eq_true rfl) dX5_ofPiece_169

theorem m_X5_ofPiece_k10 (l : Launch) (Z : hw_Z) (M : hw_M) (ad : hp_ad) (S : hs_S) (T : hp_T) (b1 : Nat → Prop) (i : Nat) (hP : hp_ok Z b1 M ad S T) (hB : hs_b S) (hi : i < hs_np S) : Met l yX5_ofPiece (hw_m yX5_ofPiece cX5_ofPiece 4 (some .int)) ({ frames := 9, cells := 0, slots := 0, locals := 190 } : Room) (va_Pc [.ref (ad 0 0), .int (nI i), .int (nI 10)] (hw_P Z M)) (hw_Qi Z (fun r M' => hs_op S i 10 = r ∧ M = M')) 0 0 (hw_A Z) := by
  by_cases hc : hs_P S i 4 = -1
  · exact m_X5_ofPiece_k10n l Z M ad S T b1 i hP hB hi hc
  · exact m_X5_ofPiece_k10s l Z M ad S T b1 i hP hB hi hc

set_option maxHeartbeats 4000000 in
set_option maxRecDepth 100000 in
theorem m_X5_ofPiece_k11 (l : Launch) (Z : hw_Z) (M : hw_M) (ad : hp_ad) (S : hs_S) (T : hp_T) (b1 : Nat → Prop) (i : Nat) (hP : hp_ok Z b1 M ad S T) (hB : hs_b S) (hi : i < hs_np S) : Met l yX5_ofPiece (hw_m yX5_ofPiece cX5_ofPiece 4 (some .int)) ({ frames := 9, cells := 0, slots := 0, locals := 190 } : Room) (va_Pc [.ref (ad 0 0), .int (nI i), .int (nI 11)] (hw_P Z M)) (hw_Qi Z (fun r M' => hs_op S i 11 = r ∧ M = M')) 0 0 (hw_A Z) := by
  refine hw_ofi (by decide +kernel) rfl (Nat.le_of_ble_eq_true rfl) ?_
  intro p e s m below meth c ls Q hx hb hml hown hts hk hnm hI hl hret
  have hnp := hB.np
  have hnw := hB.nw
  have e0_0hP : M (ad 0 0) = hw_ob 6 [.ref (ad 0 1), .ref (ad 0 2), .ref (ad 0 3), .int (nI (hs_np S)), .int (nI (hs_nw S)), .int (hs_G S 0), .int (hs_G S 1), .ref (ad 0 4), .ref (ad 0 8)] := hP.m 0 0 (by decide)
  have e0_1hP : M (ad 0 1) = hw_ar Z 3 4 (fun j => some (ad 1 j)) := hP.m 0 1 (by decide)
  refine lv_aload_n hx hb dX5_ofPiece_0 rfl (lv_at hl 0 rfl) ?_
  refine lv_iload_n hx hb dX5_ofPiece_1 rfl (lv_at hl 1 rfl) ?_
  refine hw_cr hI (hw_rV hx hb hml hown hts hk hI (m_X5_pieceAt_k l Z M (ad 0 0) (ad 0 1) (ad 0 2) (ad 0 3) (ad 0 4) (ad 0 8) (hs_np S) (hs_nw S) (hs_G S 0) (hs_G S 1) i (ad 1) e0_0hP e0_1hP hnp hi) cv_X5_57 e0_0hP rfl rfl ⟨rfl, rfl⟩ ⟨(Nat.le_of_ble_eq_true rfl), (Nat.le_of_ble_eq_true rfl)⟩ rfl hl.1 rfl (Nat.le_of_ble_eq_true rfl) ⟨(Nat.le_of_ble_eq_true rfl), (Nat.le_of_ble_eq_true rfl)⟩ dX5_ofPiece_2) (fun r2 M2 H locs hR hI => ?_)
  obtain ⟨rfl, rfl⟩ := hR
  have hi4 : i < 4 := by omega
  have e1_ihP : M (ad 1 i) = hw_ob 3 [.int (nI i), .ref (ad 2 i), .ref (ad 6 i), .int (hs_P S i 0), .int (nI (hs_D S i)), .double (hs_U S i), .int (hs_P S i 3), hp_ref (ad 9) (hs_P S i 4), .int (hs_P S i 5), .int (hs_P S i 6), .int (hs_P S i 7), .int (hs_P S i 8), .int (hs_P S i 9)] := hP.m 1 i hi4
  have e2_ihP : M (ad 2 i) = hw_ob 5 [.ref (ad 3 i), .ref (ad 4 i), .ref (ad 5 i)] := hP.m 2 i hi4
  have e3_ihP : M (ad 3 i) = hw_al Z 8 (hs_C S i) := hP.m 3 i hi4
  have e4_ihP : M (ad 4 i) = hw_al Z 8 (hb_hang (hs_C S i)) := hP.m 4 i hi4
  have e5_ihP : M (ad 5 i) = hw_al Z 8 (hb_supp (hs_C S i)) := hP.m 5 i hi4
  have e6_ihP : M (ad 6 i) = hw_ob 2 [.ref (ad 7 i), .int (hs_P S i 1), .int (hs_P S i 2)] := hP.m 6 i hi4
  refine lv_astore_n (lv' := [(3, .ref (ad 1 i)), (0, .ref (ad 0 0)), (1, .int (nI i)), (2, .int (nI 11))]) hx hb dX5_ofPiece_5 rfl hl (by decide) rfl (fun ls hl => ?_)
  refine lv_iload_n hx hb dX5_ofPiece_6 rfl (lv_at hl 3 rfl) ?_
  refine lv_tableIn (tgt := 170) hx hb dX5_ofPiece_7 (by decide) (by decide) rfl (by decide) ?_
  refine lv_aload_n hx hb dX5_ofPiece_170 rfl (lv_at hl 0 rfl) ?_
  refine hw_get hx hb hts hown hk hI fd_X5_271 e1_ihP rfl dX5_ofPiece_171 ?_
  exact hret hI (⟨rfl, rfl⟩) (Nat.le_of_ble_eq_true rfl) (Nat.le_of_ble_eq_true rfl) dX5_ofPiece_174

set_option maxHeartbeats 4000000 in
set_option maxRecDepth 100000 in
theorem m_X5_ofPiece_k12 (l : Launch) (Z : hw_Z) (M : hw_M) (ad : hp_ad) (S : hs_S) (T : hp_T) (b1 : Nat → Prop) (i : Nat) (hP : hp_ok Z b1 M ad S T) (hB : hs_b S) (hi : i < hs_np S) : Met l yX5_ofPiece (hw_m yX5_ofPiece cX5_ofPiece 4 (some .int)) ({ frames := 9, cells := 0, slots := 0, locals := 190 } : Room) (va_Pc [.ref (ad 0 0), .int (nI i), .int (nI 12)] (hw_P Z M)) (hw_Qi Z (fun r M' => hs_op S i 12 = r ∧ M = M')) 0 0 (hw_A Z) := by
  refine hw_ofi (by decide +kernel) rfl (Nat.le_of_ble_eq_true rfl) ?_
  intro p e s m below meth c ls Q hx hb hml hown hts hk hnm hI hl hret
  have hnp := hB.np
  have hnw := hB.nw
  have e0_0hP : M (ad 0 0) = hw_ob 6 [.ref (ad 0 1), .ref (ad 0 2), .ref (ad 0 3), .int (nI (hs_np S)), .int (nI (hs_nw S)), .int (hs_G S 0), .int (hs_G S 1), .ref (ad 0 4), .ref (ad 0 8)] := hP.m 0 0 (by decide)
  have e0_1hP : M (ad 0 1) = hw_ar Z 3 4 (fun j => some (ad 1 j)) := hP.m 0 1 (by decide)
  refine lv_aload_n hx hb dX5_ofPiece_0 rfl (lv_at hl 0 rfl) ?_
  refine lv_iload_n hx hb dX5_ofPiece_1 rfl (lv_at hl 1 rfl) ?_
  refine hw_cr hI (hw_rV hx hb hml hown hts hk hI (m_X5_pieceAt_k l Z M (ad 0 0) (ad 0 1) (ad 0 2) (ad 0 3) (ad 0 4) (ad 0 8) (hs_np S) (hs_nw S) (hs_G S 0) (hs_G S 1) i (ad 1) e0_0hP e0_1hP hnp hi) cv_X5_57 e0_0hP rfl rfl ⟨rfl, rfl⟩ ⟨(Nat.le_of_ble_eq_true rfl), (Nat.le_of_ble_eq_true rfl)⟩ rfl hl.1 rfl (Nat.le_of_ble_eq_true rfl) ⟨(Nat.le_of_ble_eq_true rfl), (Nat.le_of_ble_eq_true rfl)⟩ dX5_ofPiece_2) (fun r2 M2 H locs hR hI => ?_)
  obtain ⟨rfl, rfl⟩ := hR
  have hi4 : i < 4 := by omega
  have e1_ihP : M (ad 1 i) = hw_ob 3 [.int (nI i), .ref (ad 2 i), .ref (ad 6 i), .int (hs_P S i 0), .int (nI (hs_D S i)), .double (hs_U S i), .int (hs_P S i 3), hp_ref (ad 9) (hs_P S i 4), .int (hs_P S i 5), .int (hs_P S i 6), .int (hs_P S i 7), .int (hs_P S i 8), .int (hs_P S i 9)] := hP.m 1 i hi4
  have e2_ihP : M (ad 2 i) = hw_ob 5 [.ref (ad 3 i), .ref (ad 4 i), .ref (ad 5 i)] := hP.m 2 i hi4
  have e3_ihP : M (ad 3 i) = hw_al Z 8 (hs_C S i) := hP.m 3 i hi4
  have e4_ihP : M (ad 4 i) = hw_al Z 8 (hb_hang (hs_C S i)) := hP.m 4 i hi4
  have e5_ihP : M (ad 5 i) = hw_al Z 8 (hb_supp (hs_C S i)) := hP.m 5 i hi4
  have e6_ihP : M (ad 6 i) = hw_ob 2 [.ref (ad 7 i), .int (hs_P S i 1), .int (hs_P S i 2)] := hP.m 6 i hi4
  refine lv_astore_n (lv' := [(3, .ref (ad 1 i)), (0, .ref (ad 0 0)), (1, .int (nI i)), (2, .int (nI 12))]) hx hb dX5_ofPiece_5 rfl hl (by decide) rfl (fun ls hl => ?_)
  refine lv_iload_n hx hb dX5_ofPiece_6 rfl (lv_at hl 3 rfl) ?_
  refine lv_tableIn (tgt := 175) hx hb dX5_ofPiece_7 (by decide) (by decide) rfl (by decide) ?_
  refine lv_aload_n hx hb dX5_ofPiece_175 rfl (lv_at hl 0 rfl) ?_
  refine hw_get hx hb hts hown hk hI fd_X5_274 e1_ihP rfl dX5_ofPiece_176 ?_
  exact hret hI (⟨rfl, rfl⟩) (Nat.le_of_ble_eq_true rfl) (Nat.le_of_ble_eq_true rfl) dX5_ofPiece_179

set_option maxHeartbeats 4000000 in
set_option maxRecDepth 100000 in
theorem m_X5_ofPiece_k13 (l : Launch) (Z : hw_Z) (M : hw_M) (ad : hp_ad) (S : hs_S) (T : hp_T) (b1 : Nat → Prop) (i : Nat) (hP : hp_ok Z b1 M ad S T) (hB : hs_b S) (hi : i < hs_np S) : Met l yX5_ofPiece (hw_m yX5_ofPiece cX5_ofPiece 4 (some .int)) ({ frames := 9, cells := 0, slots := 0, locals := 190 } : Room) (va_Pc [.ref (ad 0 0), .int (nI i), .int (nI 13)] (hw_P Z M)) (hw_Qi Z (fun r M' => hs_op S i 13 = r ∧ M = M')) 0 0 (hw_A Z) := by
  refine hw_ofi (by decide +kernel) rfl (Nat.le_of_ble_eq_true rfl) ?_
  intro p e s m below meth c ls Q hx hb hml hown hts hk hnm hI hl hret
  have hnp := hB.np
  have hnw := hB.nw
  have e0_0hP : M (ad 0 0) = hw_ob 6 [.ref (ad 0 1), .ref (ad 0 2), .ref (ad 0 3), .int (nI (hs_np S)), .int (nI (hs_nw S)), .int (hs_G S 0), .int (hs_G S 1), .ref (ad 0 4), .ref (ad 0 8)] := hP.m 0 0 (by decide)
  have e0_1hP : M (ad 0 1) = hw_ar Z 3 4 (fun j => some (ad 1 j)) := hP.m 0 1 (by decide)
  refine lv_aload_n hx hb dX5_ofPiece_0 rfl (lv_at hl 0 rfl) ?_
  refine lv_iload_n hx hb dX5_ofPiece_1 rfl (lv_at hl 1 rfl) ?_
  refine hw_cr hI (hw_rV hx hb hml hown hts hk hI (m_X5_pieceAt_k l Z M (ad 0 0) (ad 0 1) (ad 0 2) (ad 0 3) (ad 0 4) (ad 0 8) (hs_np S) (hs_nw S) (hs_G S 0) (hs_G S 1) i (ad 1) e0_0hP e0_1hP hnp hi) cv_X5_57 e0_0hP rfl rfl ⟨rfl, rfl⟩ ⟨(Nat.le_of_ble_eq_true rfl), (Nat.le_of_ble_eq_true rfl)⟩ rfl hl.1 rfl (Nat.le_of_ble_eq_true rfl) ⟨(Nat.le_of_ble_eq_true rfl), (Nat.le_of_ble_eq_true rfl)⟩ dX5_ofPiece_2) (fun r2 M2 H locs hR hI => ?_)
  obtain ⟨rfl, rfl⟩ := hR
  have hi4 : i < 4 := by omega
  have e1_ihP : M (ad 1 i) = hw_ob 3 [.int (nI i), .ref (ad 2 i), .ref (ad 6 i), .int (hs_P S i 0), .int (nI (hs_D S i)), .double (hs_U S i), .int (hs_P S i 3), hp_ref (ad 9) (hs_P S i 4), .int (hs_P S i 5), .int (hs_P S i 6), .int (hs_P S i 7), .int (hs_P S i 8), .int (hs_P S i 9)] := hP.m 1 i hi4
  have e2_ihP : M (ad 2 i) = hw_ob 5 [.ref (ad 3 i), .ref (ad 4 i), .ref (ad 5 i)] := hP.m 2 i hi4
  have e3_ihP : M (ad 3 i) = hw_al Z 8 (hs_C S i) := hP.m 3 i hi4
  have e4_ihP : M (ad 4 i) = hw_al Z 8 (hb_hang (hs_C S i)) := hP.m 4 i hi4
  have e5_ihP : M (ad 5 i) = hw_al Z 8 (hb_supp (hs_C S i)) := hP.m 5 i hi4
  have e6_ihP : M (ad 6 i) = hw_ob 2 [.ref (ad 7 i), .int (hs_P S i 1), .int (hs_P S i 2)] := hP.m 6 i hi4
  refine lv_astore_n (lv' := [(3, .ref (ad 1 i)), (0, .ref (ad 0 0)), (1, .int (nI i)), (2, .int (nI 13))]) hx hb dX5_ofPiece_5 rfl hl (by decide) rfl (fun ls hl => ?_)
  refine lv_iload_n hx hb dX5_ofPiece_6 rfl (lv_at hl 3 rfl) ?_
  refine lv_tableIn (tgt := 180) hx hb dX5_ofPiece_7 (by decide) (by decide) rfl (by decide) ?_
  refine lv_aload_n hx hb dX5_ofPiece_180 rfl (lv_at hl 0 rfl) ?_
  refine hw_get hx hb hts hown hk hI fd_X5_277 e1_ihP rfl dX5_ofPiece_181 ?_
  exact hret hI (⟨rfl, rfl⟩) (Nat.le_of_ble_eq_true rfl) (Nat.le_of_ble_eq_true rfl) dX5_ofPiece_184

set_option maxHeartbeats 4000000 in
set_option maxRecDepth 100000 in
theorem m_X5_ofPiece_k14 (l : Launch) (Z : hw_Z) (M : hw_M) (ad : hp_ad) (S : hs_S) (T : hp_T) (b1 : Nat → Prop) (i : Nat) (hP : hp_ok Z b1 M ad S T) (hB : hs_b S) (hi : i < hs_np S) : Met l yX5_ofPiece (hw_m yX5_ofPiece cX5_ofPiece 4 (some .int)) ({ frames := 9, cells := 0, slots := 0, locals := 190 } : Room) (va_Pc [.ref (ad 0 0), .int (nI i), .int (nI 14)] (hw_P Z M)) (hw_Qi Z (fun r M' => hs_op S i 14 = r ∧ M = M')) 0 0 (hw_A Z) := by
  refine hw_ofi (by decide +kernel) rfl (Nat.le_of_ble_eq_true rfl) ?_
  intro p e s m below meth c ls Q hx hb hml hown hts hk hnm hI hl hret
  have hnp := hB.np
  have hnw := hB.nw
  have e0_0hP : M (ad 0 0) = hw_ob 6 [.ref (ad 0 1), .ref (ad 0 2), .ref (ad 0 3), .int (nI (hs_np S)), .int (nI (hs_nw S)), .int (hs_G S 0), .int (hs_G S 1), .ref (ad 0 4), .ref (ad 0 8)] := hP.m 0 0 (by decide)
  have e0_1hP : M (ad 0 1) = hw_ar Z 3 4 (fun j => some (ad 1 j)) := hP.m 0 1 (by decide)
  refine lv_aload_n hx hb dX5_ofPiece_0 rfl (lv_at hl 0 rfl) ?_
  refine lv_iload_n hx hb dX5_ofPiece_1 rfl (lv_at hl 1 rfl) ?_
  refine hw_cr hI (hw_rV hx hb hml hown hts hk hI (m_X5_pieceAt_k l Z M (ad 0 0) (ad 0 1) (ad 0 2) (ad 0 3) (ad 0 4) (ad 0 8) (hs_np S) (hs_nw S) (hs_G S 0) (hs_G S 1) i (ad 1) e0_0hP e0_1hP hnp hi) cv_X5_57 e0_0hP rfl rfl ⟨rfl, rfl⟩ ⟨(Nat.le_of_ble_eq_true rfl), (Nat.le_of_ble_eq_true rfl)⟩ rfl hl.1 rfl (Nat.le_of_ble_eq_true rfl) ⟨(Nat.le_of_ble_eq_true rfl), (Nat.le_of_ble_eq_true rfl)⟩ dX5_ofPiece_2) (fun r2 M2 H locs hR hI => ?_)
  obtain ⟨rfl, rfl⟩ := hR
  have hi4 : i < 4 := by omega
  have e1_ihP : M (ad 1 i) = hw_ob 3 [.int (nI i), .ref (ad 2 i), .ref (ad 6 i), .int (hs_P S i 0), .int (nI (hs_D S i)), .double (hs_U S i), .int (hs_P S i 3), hp_ref (ad 9) (hs_P S i 4), .int (hs_P S i 5), .int (hs_P S i 6), .int (hs_P S i 7), .int (hs_P S i 8), .int (hs_P S i 9)] := hP.m 1 i hi4
  have e2_ihP : M (ad 2 i) = hw_ob 5 [.ref (ad 3 i), .ref (ad 4 i), .ref (ad 5 i)] := hP.m 2 i hi4
  have e3_ihP : M (ad 3 i) = hw_al Z 8 (hs_C S i) := hP.m 3 i hi4
  have e4_ihP : M (ad 4 i) = hw_al Z 8 (hb_hang (hs_C S i)) := hP.m 4 i hi4
  have e5_ihP : M (ad 5 i) = hw_al Z 8 (hb_supp (hs_C S i)) := hP.m 5 i hi4
  have e6_ihP : M (ad 6 i) = hw_ob 2 [.ref (ad 7 i), .int (hs_P S i 1), .int (hs_P S i 2)] := hP.m 6 i hi4
  refine lv_astore_n (lv' := [(3, .ref (ad 1 i)), (0, .ref (ad 0 0)), (1, .int (nI i)), (2, .int (nI 14))]) hx hb dX5_ofPiece_5 rfl hl (by decide) rfl (fun ls hl => ?_)
  refine lv_iload_n hx hb dX5_ofPiece_6 rfl (lv_at hl 3 rfl) ?_
  refine lv_tableIn (tgt := 185) hx hb dX5_ofPiece_7 (by decide) (by decide) rfl (by decide) ?_
  refine lv_aload_n hx hb dX5_ofPiece_185 rfl (lv_at hl 0 rfl) ?_
  refine hw_get hx hb hts hown hk hI fd_X5_278 e1_ihP rfl dX5_ofPiece_186 ?_
  exact hret hI (⟨rfl, rfl⟩) (Nat.le_of_ble_eq_true rfl) (Nat.le_of_ble_eq_true rfl) dX5_ofPiece_189

set_option maxHeartbeats 4000000 in
set_option maxRecDepth 100000 in
theorem m_X5_ofPiece_o (l : Launch) (hst : l.stackTraces = false) (Z : hw_Z) (M : hw_M) (ad : hp_ad) (S : hs_S) (T : hp_T) (b1 : Nat → Prop) (ka : Int32) (kw : Int32) (hP : hp_ok Z b1 M ad S T) (hB : hs_b S) (hw : ¬ hb_ok kw 15) : vx_Met l yX5_ofPiece (hw_m yX5_ofPiece cX5_ofPiece 4 (some .int)) ({ frames := 9, cells := 6, slots := 36, locals := 190 } : Room) (va_Pc [.ref (ad 0 0), .int ka, .int kw] (hw_P Z M)) (hw_Qi Z (hq_N M S (st_ofPiece S ka kw))) (hw_X Z (hq_X ["java/lang/IndexOutOfBoundsException", "java/lang/IllegalArgumentException"] M S (st_ofPiece S ka kw))) 6 36 (hw_A Z) := by
  refine hw_xofi hst (by decide +kernel) rfl (Nat.le_of_ble_eq_true rfl) ?_
  intro p e s m below meth c ls Q hx hb hml hown hts hk hnm hI hl hret hxo hthr hthrW
  have hnp := hB.np
  have hnw := hB.nw
  have e0_0hP : M (ad 0 0) = hw_ob 6 [.ref (ad 0 1), .ref (ad 0 2), .ref (ad 0 3), .int (nI (hs_np S)), .int (nI (hs_nw S)), .int (hs_G S 0), .int (hs_G S 1), .ref (ad 0 4), .ref (ad 0 8)] := hP.m 0 0 (by decide)
  have e0_1hP : M (ad 0 1) = hw_ar Z 3 4 (fun j => some (ad 1 j)) := hP.m 0 1 (by decide)
  refine lv_aload_n hx hb dX5_ofPiece_0 rfl (lv_at hl 0 rfl) ?_
  refine lv_iload_n hx hb dX5_ofPiece_1 rfl (lv_at hl 1 rfl) ?_
  refine hw_xr hI hxo (hw_xV hx hb hml hown hts hk hI (m_X5_pieceAt l hst Z M (ad 0 0) (ad 0 1) (ad 0 2) (ad 0 3) (ad 0 4) (ad 0 8) (hs_np S) (hs_nw S) (hs_G S 0) (hs_G S 1) ka (ad 1) e0_0hP e0_1hP hnp) cv_X5_57 e0_0hP rfl rfl ⟨rfl, rfl⟩ ⟨(Nat.le_of_ble_eq_true rfl), (Nat.le_of_ble_eq_true rfl)⟩ rfl hl.1 rfl (Nat.le_of_ble_eq_true rfl) ⟨(Nat.le_of_ble_eq_true rfl), (Nat.le_of_ble_eq_true rfl)⟩ dX5_ofPiece_2) (hq_xc (c := 1) (fun h => by unfold st_ofPiece; exact (hq_if h ⟨rfl, rfl⟩)) ⟨by decide, rfl⟩) (Nat.le_of_ble_eq_true rfl) (Nat.le_of_ble_eq_true rfl) (fun r2 M2 H locs hR hI => ?_)
  obtain ⟨⟨hk2, rfl⟩, rfl⟩ := hR
  refine lv_astore_n (lv' := [(3, .ref (ad 1 (hb_ix ka))), (0, .ref (ad 0 0)), (1, .int ka), (2, .int kw)]) hx hb dX5_ofPiece_5 rfl hl (by decide) rfl (fun ls hl => ?_)
  refine lv_iload_n hx hb dX5_ofPiece_6 rfl (lv_at hl 3 rfl) ?_
  refine lv_tableOut (tgt := 190) hx hb dX5_ofPiece_7 (by have := hq_out (n := 15) (by decide) hw; omega) (by decide) ?_
  exact hthrW hI th_X5_96_281_100 hl.1 dX5_ofPiece_190 dX5_ofPiece_193 dX5_ofPiece_194 dX5_ofPiece_197 dX5_ofPiece_200 (Nat.le_of_ble_eq_true rfl) (Nat.le_of_ble_eq_true rfl) (Nat.le_of_ble_eq_true rfl) (Nat.le_of_ble_eq_true rfl) (hq_x (c := 2) (by unfold st_ofPiece; exact (hq_el (fun q => q hk2) (hq_if hw ⟨rfl, rfl⟩))) ⟨by decide, rfl⟩ rfl) (Nat.le_of_ble_eq_true rfl) (Nat.le_of_ble_eq_true rfl)

theorem m_X5_ofPiece (l : Launch) (hst : l.stackTraces = false) (Z : hw_Z) (M : hw_M) (ad : hp_ad) (S : hs_S) (T : hp_T) (b1 : Nat → Prop) (ka : Int32) (kw : Int32) (hP : hp_ok Z b1 M ad S T) (hB : hs_b S) : vx_Met l yX5_ofPiece (hw_m yX5_ofPiece cX5_ofPiece 4 (some .int)) ({ frames := 9, cells := 6, slots := 36, locals := 190 } : Room) (va_Pc [.ref (ad 0 0), .int ka, .int kw] (hw_P Z M)) (hw_Qi Z (hq_N M S (st_ofPiece S ka kw))) (hw_X Z (hq_X ["java/lang/IndexOutOfBoundsException", "java/lang/IllegalArgumentException"] M S (st_ofPiece S ka kw))) 6 36 (hw_A Z) := by
  by_cases hw : hb_ok kw 15
  · obtain ⟨j, hj, rfl⟩ := hb_okj (by decide) hw
    rcases (show j = 0 ∨ j = 1 ∨ j = 2 ∨ j = 3 ∨ j = 4 ∨ j = 5 ∨ j = 6 ∨ j = 7 ∨ j = 8 ∨ j = 9 ∨ j = 10 ∨ j = 11 ∨ j = 12 ∨ j = 13 ∨ j = 14 by omega) with rfl | rfl | rfl | rfl | rfl | rfl | rfl | rfl | rfl | rfl | rfl | rfl | rfl | rfl | rfl
    · exact m_X5_ofPiece_0 l hst Z M ad S T b1 ka hP hB
    · exact m_X5_ofPiece_1 l hst Z M ad S T b1 ka hP hB
    · exact m_X5_ofPiece_2 l hst Z M ad S T b1 ka hP hB
    · exact m_X5_ofPiece_3 l hst Z M ad S T b1 ka hP hB
    · exact m_X5_ofPiece_4 l hst Z M ad S T b1 ka hP hB
    · exact m_X5_ofPiece_5 l hst Z M ad S T b1 ka hP hB
    · exact m_X5_ofPiece_6 l hst Z M ad S T b1 ka hP hB
    · exact m_X5_ofPiece_7 l hst Z M ad S T b1 ka hP hB
    · exact m_X5_ofPiece_8 l hst Z M ad S T b1 ka hP hB
    · exact m_X5_ofPiece_9 l hst Z M ad S T b1 ka hP hB
    · exact m_X5_ofPiece_10 l hst Z M ad S T b1 ka hP hB
    · exact m_X5_ofPiece_11 l hst Z M ad S T b1 ka hP hB
    · exact m_X5_ofPiece_12 l hst Z M ad S T b1 ka hP hB
    · exact m_X5_ofPiece_13 l hst Z M ad S T b1 ka hP hB
    · exact m_X5_ofPiece_14 l hst Z M ad S T b1 ka hP hB
  · exact m_X5_ofPiece_o l hst Z M ad S T b1 ka kw hP hB hw

theorem m_X5_ofPiece_k (l : Launch) (Z : hw_Z) (M : hw_M) (ad : hp_ad) (S : hs_S) (T : hp_T) (b1 : Nat → Prop) (i : Nat) (w : Nat) (hP : hp_ok Z b1 M ad S T) (hB : hs_b S) (hi : i < hs_np S) (hw : w < 15) : Met l yX5_ofPiece (hw_m yX5_ofPiece cX5_ofPiece 4 (some .int)) ({ frames := 9, cells := 0, slots := 0, locals := 190 } : Room) (va_Pc [.ref (ad 0 0), .int (nI i), .int (nI w)] (hw_P Z M)) (hw_Qi Z (fun r M' => hs_op S i w = r ∧ M = M')) 0 0 (hw_A Z) := by
  rcases (show w = 0 ∨ w = 1 ∨ w = 2 ∨ w = 3 ∨ w = 4 ∨ w = 5 ∨ w = 6 ∨ w = 7 ∨ w = 8 ∨ w = 9 ∨ w = 10 ∨ w = 11 ∨ w = 12 ∨ w = 13 ∨ w = 14 by omega) with rfl | rfl | rfl | rfl | rfl | rfl | rfl | rfl | rfl | rfl | rfl | rfl | rfl | rfl | rfl
  · exact m_X5_ofPiece_k0 l Z M ad S T b1 i hP hB hi
  · exact m_X5_ofPiece_k1 l Z M ad S T b1 i hP hB hi
  · exact m_X5_ofPiece_k2 l Z M ad S T b1 i hP hB hi
  · exact m_X5_ofPiece_k3 l Z M ad S T b1 i hP hB hi
  · exact m_X5_ofPiece_k4 l Z M ad S T b1 i hP hB hi
  · exact m_X5_ofPiece_k5 l Z M ad S T b1 i hP hB hi
  · exact m_X5_ofPiece_k6 l Z M ad S T b1 i hP hB hi
  · exact m_X5_ofPiece_k7 l Z M ad S T b1 i hP hB hi
  · exact m_X5_ofPiece_k8 l Z M ad S T b1 i hP hB hi
  · exact m_X5_ofPiece_k9 l Z M ad S T b1 i hP hB hi
  · exact m_X5_ofPiece_k10 l Z M ad S T b1 i hP hB hi
  · exact m_X5_ofPiece_k11 l Z M ad S T b1 i hP hB hi
  · exact m_X5_ofPiece_k12 l Z M ad S T b1 i hP hB hi
  · exact m_X5_ofPiece_k13 l Z M ad S T b1 i hP hB hi
  · exact m_X5_ofPiece_k14 l Z M ad S T b1 i hP hB hi

set_option maxHeartbeats 4000000 in
set_option maxRecDepth 100000 in
theorem m_X5_ofPowder_0 (l : Launch) (hst : l.stackTraces = false) (Z : hw_Z) (M : hw_M) (ad : hp_ad) (S : hs_S) (T : hp_T) (b1 : Nat → Prop) (ka : Int32) (hP : hp_ok Z b1 M ad S T) (hB : hs_b S) : vx_Met l yX5_ofPowder (hw_m yX5_ofPowder cX5_ofPowder 4 (some .int)) ({ frames := 9, cells := 6, slots := 36, locals := 190 } : Room) (va_Pc [.ref (ad 0 0), .int ka, .int (nI 0)] (hw_P Z M)) (hw_Qi Z (hq_N M S (st_ofPowder S ka (nI 0)))) (hw_X Z (hq_X ["java/lang/IndexOutOfBoundsException", "java/lang/IllegalArgumentException"] M S (st_ofPowder S ka (nI 0)))) 6 36 (hw_A Z) := by
  refine hw_xofi hst (by decide +kernel) rfl (Nat.le_of_ble_eq_true rfl) ?_
  intro p e s m below meth c ls Q hx hb hml hown hts hk hnm hI hl hret hxo hthr hthrW
  have hnp := hB.np
  have hnw := hB.nw
  have e0_0hP : M (ad 0 0) = hw_ob 6 [.ref (ad 0 1), .ref (ad 0 2), .ref (ad 0 3), .int (nI (hs_np S)), .int (nI (hs_nw S)), .int (hs_G S 0), .int (hs_G S 1), .ref (ad 0 4), .ref (ad 0 8)] := hP.m 0 0 (by decide)
  have e0_2hP : M (ad 0 2) = hw_ar Z 4 6 (fun j => some (ad 8 j)) := hP.m 0 2 (by decide)
  refine lv_aload_n hx hb dX5_ofPowder_0 rfl (lv_at hl 0 rfl) ?_
  refine lv_iload_n hx hb dX5_ofPowder_1 rfl (lv_at hl 1 rfl) ?_
  refine hw_xr hI hxo (hw_xV hx hb hml hown hts hk hI (m_X5_powderAt l hst Z M (ad 0 0) (ad 0 1) (ad 0 2) (ad 0 3) (ad 0 4) (ad 0 8) (hs_np S) (hs_nw S) (hs_G S 0) (hs_G S 1) ka (ad 8) e0_0hP e0_2hP hnw) cv_X5_117 e0_0hP rfl rfl ⟨rfl, rfl⟩ ⟨(Nat.le_of_ble_eq_true rfl), (Nat.le_of_ble_eq_true rfl)⟩ rfl hl.1 rfl (Nat.le_of_ble_eq_true rfl) ⟨(Nat.le_of_ble_eq_true rfl), (Nat.le_of_ble_eq_true rfl)⟩ dX5_ofPowder_2) (hq_xc (c := 1) (fun h => by unfold st_ofPowder; exact (hq_if h ⟨rfl, rfl⟩)) ⟨by decide, rfl⟩) (Nat.le_of_ble_eq_true rfl) (Nat.le_of_ble_eq_true rfl) (fun r2 M2 H locs hR hI => ?_)
  obtain ⟨⟨hk2, rfl⟩, rfl⟩ := hR
  have hx2 := hb_okx (by omega) hk2
  have hi2 : hb_ix ka < 6 := by have := hx2.1; omega
  have e8_hb_ix_kahP : M (ad 8 (hb_ix ka)) = hw_ob 4 [.int (nI (hb_ix ka)), .int (hs_V S (hb_ix ka) 0), .int (hs_V S (hb_ix ka) 1), .int (hs_V S (hb_ix ka) 2), .int (hs_V S (hb_ix ka) 3), .int (hs_V S (hb_ix ka) 4)] := hP.m 8 (hb_ix ka) hi2
  refine lv_astore_n (lv' := [(3, .ref (ad 8 (hb_ix ka))), (0, .ref (ad 0 0)), (1, .int ka), (2, .int (nI 0))]) hx hb dX5_ofPowder_5 rfl hl (by decide) rfl (fun ls hl => ?_)
  refine lv_iload_n hx hb dX5_ofPowder_6 rfl (lv_at hl 3 rfl) ?_
  refine lv_tableIn (tgt := 40) hx hb dX5_ofPowder_7 (by decide) (by decide) rfl (by decide) ?_
  refine lv_aload_n hx hb dX5_ofPowder_40 rfl (lv_at hl 0 rfl) ?_
  refine hw_get hx hb hts hown hk hI fd_X5_108 e8_hb_ix_kahP rfl dX5_ofPowder_41 ?_
  exact hret hI (⟨by unfold st_ofPowder; exact (if_neg (fun q => q hk2)).trans ((if_neg (fun q => q (by decide))).trans rfl), rfl⟩) (Nat.le_of_ble_eq_true rfl) (Nat.le_of_ble_eq_true rfl) dX5_ofPowder_44

set_option maxHeartbeats 4000000 in
set_option maxRecDepth 100000 in
theorem m_X5_ofPowder_1 (l : Launch) (hst : l.stackTraces = false) (Z : hw_Z) (M : hw_M) (ad : hp_ad) (S : hs_S) (T : hp_T) (b1 : Nat → Prop) (ka : Int32) (hP : hp_ok Z b1 M ad S T) (hB : hs_b S) : vx_Met l yX5_ofPowder (hw_m yX5_ofPowder cX5_ofPowder 4 (some .int)) ({ frames := 9, cells := 6, slots := 36, locals := 190 } : Room) (va_Pc [.ref (ad 0 0), .int ka, .int (nI 1)] (hw_P Z M)) (hw_Qi Z (hq_N M S (st_ofPowder S ka (nI 1)))) (hw_X Z (hq_X ["java/lang/IndexOutOfBoundsException", "java/lang/IllegalArgumentException"] M S (st_ofPowder S ka (nI 1)))) 6 36 (hw_A Z) := by
  refine hw_xofi hst (by decide +kernel) rfl (Nat.le_of_ble_eq_true rfl) ?_
  intro p e s m below meth c ls Q hx hb hml hown hts hk hnm hI hl hret hxo hthr hthrW
  have hnp := hB.np
  have hnw := hB.nw
  have e0_0hP : M (ad 0 0) = hw_ob 6 [.ref (ad 0 1), .ref (ad 0 2), .ref (ad 0 3), .int (nI (hs_np S)), .int (nI (hs_nw S)), .int (hs_G S 0), .int (hs_G S 1), .ref (ad 0 4), .ref (ad 0 8)] := hP.m 0 0 (by decide)
  have e0_2hP : M (ad 0 2) = hw_ar Z 4 6 (fun j => some (ad 8 j)) := hP.m 0 2 (by decide)
  refine lv_aload_n hx hb dX5_ofPowder_0 rfl (lv_at hl 0 rfl) ?_
  refine lv_iload_n hx hb dX5_ofPowder_1 rfl (lv_at hl 1 rfl) ?_
  refine hw_xr hI hxo (hw_xV hx hb hml hown hts hk hI (m_X5_powderAt l hst Z M (ad 0 0) (ad 0 1) (ad 0 2) (ad 0 3) (ad 0 4) (ad 0 8) (hs_np S) (hs_nw S) (hs_G S 0) (hs_G S 1) ka (ad 8) e0_0hP e0_2hP hnw) cv_X5_117 e0_0hP rfl rfl ⟨rfl, rfl⟩ ⟨(Nat.le_of_ble_eq_true rfl), (Nat.le_of_ble_eq_true rfl)⟩ rfl hl.1 rfl (Nat.le_of_ble_eq_true rfl) ⟨(Nat.le_of_ble_eq_true rfl), (Nat.le_of_ble_eq_true rfl)⟩ dX5_ofPowder_2) (hq_xc (c := 1) (fun h => by unfold st_ofPowder; exact (hq_if h ⟨rfl, rfl⟩)) ⟨by decide, rfl⟩) (Nat.le_of_ble_eq_true rfl) (Nat.le_of_ble_eq_true rfl) (fun r2 M2 H locs hR hI => ?_)
  obtain ⟨⟨hk2, rfl⟩, rfl⟩ := hR
  have hx2 := hb_okx (by omega) hk2
  have hi2 : hb_ix ka < 6 := by have := hx2.1; omega
  have e8_hb_ix_kahP : M (ad 8 (hb_ix ka)) = hw_ob 4 [.int (nI (hb_ix ka)), .int (hs_V S (hb_ix ka) 0), .int (hs_V S (hb_ix ka) 1), .int (hs_V S (hb_ix ka) 2), .int (hs_V S (hb_ix ka) 3), .int (hs_V S (hb_ix ka) 4)] := hP.m 8 (hb_ix ka) hi2
  refine lv_astore_n (lv' := [(3, .ref (ad 8 (hb_ix ka))), (0, .ref (ad 0 0)), (1, .int ka), (2, .int (nI 1))]) hx hb dX5_ofPowder_5 rfl hl (by decide) rfl (fun ls hl => ?_)
  refine lv_iload_n hx hb dX5_ofPowder_6 rfl (lv_at hl 3 rfl) ?_
  refine lv_tableIn (tgt := 45) hx hb dX5_ofPowder_7 (by decide) (by decide) rfl (by decide) ?_
  refine lv_aload_n hx hb dX5_ofPowder_45 rfl (lv_at hl 0 rfl) ?_
  refine hw_get hx hb hts hown hk hI fd_X5_111 e8_hb_ix_kahP rfl dX5_ofPowder_46 ?_
  exact hret hI (⟨by unfold st_ofPowder; exact (if_neg (fun q => q hk2)).trans ((if_neg (fun q => q (by decide))).trans rfl), rfl⟩) (Nat.le_of_ble_eq_true rfl) (Nat.le_of_ble_eq_true rfl) dX5_ofPowder_49

set_option maxHeartbeats 4000000 in
set_option maxRecDepth 100000 in
theorem m_X5_ofPowder_2 (l : Launch) (hst : l.stackTraces = false) (Z : hw_Z) (M : hw_M) (ad : hp_ad) (S : hs_S) (T : hp_T) (b1 : Nat → Prop) (ka : Int32) (hP : hp_ok Z b1 M ad S T) (hB : hs_b S) : vx_Met l yX5_ofPowder (hw_m yX5_ofPowder cX5_ofPowder 4 (some .int)) ({ frames := 9, cells := 6, slots := 36, locals := 190 } : Room) (va_Pc [.ref (ad 0 0), .int ka, .int (nI 2)] (hw_P Z M)) (hw_Qi Z (hq_N M S (st_ofPowder S ka (nI 2)))) (hw_X Z (hq_X ["java/lang/IndexOutOfBoundsException", "java/lang/IllegalArgumentException"] M S (st_ofPowder S ka (nI 2)))) 6 36 (hw_A Z) := by
  refine hw_xofi hst (by decide +kernel) rfl (Nat.le_of_ble_eq_true rfl) ?_
  intro p e s m below meth c ls Q hx hb hml hown hts hk hnm hI hl hret hxo hthr hthrW
  have hnp := hB.np
  have hnw := hB.nw
  have e0_0hP : M (ad 0 0) = hw_ob 6 [.ref (ad 0 1), .ref (ad 0 2), .ref (ad 0 3), .int (nI (hs_np S)), .int (nI (hs_nw S)), .int (hs_G S 0), .int (hs_G S 1), .ref (ad 0 4), .ref (ad 0 8)] := hP.m 0 0 (by decide)
  have e0_2hP : M (ad 0 2) = hw_ar Z 4 6 (fun j => some (ad 8 j)) := hP.m 0 2 (by decide)
  refine lv_aload_n hx hb dX5_ofPowder_0 rfl (lv_at hl 0 rfl) ?_
  refine lv_iload_n hx hb dX5_ofPowder_1 rfl (lv_at hl 1 rfl) ?_
  refine hw_xr hI hxo (hw_xV hx hb hml hown hts hk hI (m_X5_powderAt l hst Z M (ad 0 0) (ad 0 1) (ad 0 2) (ad 0 3) (ad 0 4) (ad 0 8) (hs_np S) (hs_nw S) (hs_G S 0) (hs_G S 1) ka (ad 8) e0_0hP e0_2hP hnw) cv_X5_117 e0_0hP rfl rfl ⟨rfl, rfl⟩ ⟨(Nat.le_of_ble_eq_true rfl), (Nat.le_of_ble_eq_true rfl)⟩ rfl hl.1 rfl (Nat.le_of_ble_eq_true rfl) ⟨(Nat.le_of_ble_eq_true rfl), (Nat.le_of_ble_eq_true rfl)⟩ dX5_ofPowder_2) (hq_xc (c := 1) (fun h => by unfold st_ofPowder; exact (hq_if h ⟨rfl, rfl⟩)) ⟨by decide, rfl⟩) (Nat.le_of_ble_eq_true rfl) (Nat.le_of_ble_eq_true rfl) (fun r2 M2 H locs hR hI => ?_)
  obtain ⟨⟨hk2, rfl⟩, rfl⟩ := hR
  have hx2 := hb_okx (by omega) hk2
  have hi2 : hb_ix ka < 6 := by have := hx2.1; omega
  have e8_hb_ix_kahP : M (ad 8 (hb_ix ka)) = hw_ob 4 [.int (nI (hb_ix ka)), .int (hs_V S (hb_ix ka) 0), .int (hs_V S (hb_ix ka) 1), .int (hs_V S (hb_ix ka) 2), .int (hs_V S (hb_ix ka) 3), .int (hs_V S (hb_ix ka) 4)] := hP.m 8 (hb_ix ka) hi2
  refine lv_astore_n (lv' := [(3, .ref (ad 8 (hb_ix ka))), (0, .ref (ad 0 0)), (1, .int ka), (2, .int (nI 2))]) hx hb dX5_ofPowder_5 rfl hl (by decide) rfl (fun ls hl => ?_)
  refine lv_iload_n hx hb dX5_ofPowder_6 rfl (lv_at hl 3 rfl) ?_
  refine lv_tableIn (tgt := 50) hx hb dX5_ofPowder_7 (by decide) (by decide) rfl (by decide) ?_
  refine lv_aload_n hx hb dX5_ofPowder_50 rfl (lv_at hl 0 rfl) ?_
  refine hw_get hx hb hts hown hk hI fd_X5_151 e8_hb_ix_kahP rfl dX5_ofPowder_51 ?_
  exact hret hI (⟨by unfold st_ofPowder; exact (if_neg (fun q => q hk2)).trans ((if_neg (fun q => q (by decide))).trans rfl), rfl⟩) (Nat.le_of_ble_eq_true rfl) (Nat.le_of_ble_eq_true rfl) dX5_ofPowder_54

set_option maxHeartbeats 4000000 in
set_option maxRecDepth 100000 in
theorem m_X5_ofPowder_3 (l : Launch) (hst : l.stackTraces = false) (Z : hw_Z) (M : hw_M) (ad : hp_ad) (S : hs_S) (T : hp_T) (b1 : Nat → Prop) (ka : Int32) (hP : hp_ok Z b1 M ad S T) (hB : hs_b S) : vx_Met l yX5_ofPowder (hw_m yX5_ofPowder cX5_ofPowder 4 (some .int)) ({ frames := 9, cells := 6, slots := 36, locals := 190 } : Room) (va_Pc [.ref (ad 0 0), .int ka, .int (nI 3)] (hw_P Z M)) (hw_Qi Z (hq_N M S (st_ofPowder S ka (nI 3)))) (hw_X Z (hq_X ["java/lang/IndexOutOfBoundsException", "java/lang/IllegalArgumentException"] M S (st_ofPowder S ka (nI 3)))) 6 36 (hw_A Z) := by
  refine hw_xofi hst (by decide +kernel) rfl (Nat.le_of_ble_eq_true rfl) ?_
  intro p e s m below meth c ls Q hx hb hml hown hts hk hnm hI hl hret hxo hthr hthrW
  have hnp := hB.np
  have hnw := hB.nw
  have e0_0hP : M (ad 0 0) = hw_ob 6 [.ref (ad 0 1), .ref (ad 0 2), .ref (ad 0 3), .int (nI (hs_np S)), .int (nI (hs_nw S)), .int (hs_G S 0), .int (hs_G S 1), .ref (ad 0 4), .ref (ad 0 8)] := hP.m 0 0 (by decide)
  have e0_2hP : M (ad 0 2) = hw_ar Z 4 6 (fun j => some (ad 8 j)) := hP.m 0 2 (by decide)
  refine lv_aload_n hx hb dX5_ofPowder_0 rfl (lv_at hl 0 rfl) ?_
  refine lv_iload_n hx hb dX5_ofPowder_1 rfl (lv_at hl 1 rfl) ?_
  refine hw_xr hI hxo (hw_xV hx hb hml hown hts hk hI (m_X5_powderAt l hst Z M (ad 0 0) (ad 0 1) (ad 0 2) (ad 0 3) (ad 0 4) (ad 0 8) (hs_np S) (hs_nw S) (hs_G S 0) (hs_G S 1) ka (ad 8) e0_0hP e0_2hP hnw) cv_X5_117 e0_0hP rfl rfl ⟨rfl, rfl⟩ ⟨(Nat.le_of_ble_eq_true rfl), (Nat.le_of_ble_eq_true rfl)⟩ rfl hl.1 rfl (Nat.le_of_ble_eq_true rfl) ⟨(Nat.le_of_ble_eq_true rfl), (Nat.le_of_ble_eq_true rfl)⟩ dX5_ofPowder_2) (hq_xc (c := 1) (fun h => by unfold st_ofPowder; exact (hq_if h ⟨rfl, rfl⟩)) ⟨by decide, rfl⟩) (Nat.le_of_ble_eq_true rfl) (Nat.le_of_ble_eq_true rfl) (fun r2 M2 H locs hR hI => ?_)
  obtain ⟨⟨hk2, rfl⟩, rfl⟩ := hR
  have hx2 := hb_okx (by omega) hk2
  have hi2 : hb_ix ka < 6 := by have := hx2.1; omega
  have e8_hb_ix_kahP : M (ad 8 (hb_ix ka)) = hw_ob 4 [.int (nI (hb_ix ka)), .int (hs_V S (hb_ix ka) 0), .int (hs_V S (hb_ix ka) 1), .int (hs_V S (hb_ix ka) 2), .int (hs_V S (hb_ix ka) 3), .int (hs_V S (hb_ix ka) 4)] := hP.m 8 (hb_ix ka) hi2
  refine lv_astore_n (lv' := [(3, .ref (ad 8 (hb_ix ka))), (0, .ref (ad 0 0)), (1, .int ka), (2, .int (nI 3))]) hx hb dX5_ofPowder_5 rfl hl (by decide) rfl (fun ls hl => ?_)
  refine lv_iload_n hx hb dX5_ofPowder_6 rfl (lv_at hl 3 rfl) ?_
  refine lv_tableIn (tgt := 55) hx hb dX5_ofPowder_7 (by decide) (by decide) rfl (by decide) ?_
  refine lv_aload_n hx hb dX5_ofPowder_55 rfl (lv_at hl 0 rfl) ?_
  refine hw_get hx hb hts hown hk hI fd_X5_295 e8_hb_ix_kahP rfl dX5_ofPowder_56 ?_
  exact hret hI (⟨by unfold st_ofPowder; exact (if_neg (fun q => q hk2)).trans ((if_neg (fun q => q (by decide))).trans rfl), rfl⟩) (Nat.le_of_ble_eq_true rfl) (Nat.le_of_ble_eq_true rfl) dX5_ofPowder_59

set_option maxHeartbeats 4000000 in
set_option maxRecDepth 100000 in
theorem m_X5_ofPowder_4 (l : Launch) (hst : l.stackTraces = false) (Z : hw_Z) (M : hw_M) (ad : hp_ad) (S : hs_S) (T : hp_T) (b1 : Nat → Prop) (ka : Int32) (hP : hp_ok Z b1 M ad S T) (hB : hs_b S) : vx_Met l yX5_ofPowder (hw_m yX5_ofPowder cX5_ofPowder 4 (some .int)) ({ frames := 9, cells := 6, slots := 36, locals := 190 } : Room) (va_Pc [.ref (ad 0 0), .int ka, .int (nI 4)] (hw_P Z M)) (hw_Qi Z (hq_N M S (st_ofPowder S ka (nI 4)))) (hw_X Z (hq_X ["java/lang/IndexOutOfBoundsException", "java/lang/IllegalArgumentException"] M S (st_ofPowder S ka (nI 4)))) 6 36 (hw_A Z) := by
  refine hw_xofi hst (by decide +kernel) rfl (Nat.le_of_ble_eq_true rfl) ?_
  intro p e s m below meth c ls Q hx hb hml hown hts hk hnm hI hl hret hxo hthr hthrW
  have hnp := hB.np
  have hnw := hB.nw
  have e0_0hP : M (ad 0 0) = hw_ob 6 [.ref (ad 0 1), .ref (ad 0 2), .ref (ad 0 3), .int (nI (hs_np S)), .int (nI (hs_nw S)), .int (hs_G S 0), .int (hs_G S 1), .ref (ad 0 4), .ref (ad 0 8)] := hP.m 0 0 (by decide)
  have e0_2hP : M (ad 0 2) = hw_ar Z 4 6 (fun j => some (ad 8 j)) := hP.m 0 2 (by decide)
  refine lv_aload_n hx hb dX5_ofPowder_0 rfl (lv_at hl 0 rfl) ?_
  refine lv_iload_n hx hb dX5_ofPowder_1 rfl (lv_at hl 1 rfl) ?_
  refine hw_xr hI hxo (hw_xV hx hb hml hown hts hk hI (m_X5_powderAt l hst Z M (ad 0 0) (ad 0 1) (ad 0 2) (ad 0 3) (ad 0 4) (ad 0 8) (hs_np S) (hs_nw S) (hs_G S 0) (hs_G S 1) ka (ad 8) e0_0hP e0_2hP hnw) cv_X5_117 e0_0hP rfl rfl ⟨rfl, rfl⟩ ⟨(Nat.le_of_ble_eq_true rfl), (Nat.le_of_ble_eq_true rfl)⟩ rfl hl.1 rfl (Nat.le_of_ble_eq_true rfl) ⟨(Nat.le_of_ble_eq_true rfl), (Nat.le_of_ble_eq_true rfl)⟩ dX5_ofPowder_2) (hq_xc (c := 1) (fun h => by unfold st_ofPowder; exact (hq_if h ⟨rfl, rfl⟩)) ⟨by decide, rfl⟩) (Nat.le_of_ble_eq_true rfl) (Nat.le_of_ble_eq_true rfl) (fun r2 M2 H locs hR hI => ?_)
  obtain ⟨⟨hk2, rfl⟩, rfl⟩ := hR
  have hx2 := hb_okx (by omega) hk2
  have hi2 : hb_ix ka < 6 := by have := hx2.1; omega
  have e8_hb_ix_kahP : M (ad 8 (hb_ix ka)) = hw_ob 4 [.int (nI (hb_ix ka)), .int (hs_V S (hb_ix ka) 0), .int (hs_V S (hb_ix ka) 1), .int (hs_V S (hb_ix ka) 2), .int (hs_V S (hb_ix ka) 3), .int (hs_V S (hb_ix ka) 4)] := hP.m 8 (hb_ix ka) hi2
  refine lv_astore_n (lv' := [(3, .ref (ad 8 (hb_ix ka))), (0, .ref (ad 0 0)), (1, .int ka), (2, .int (nI 4))]) hx hb dX5_ofPowder_5 rfl hl (by decide) rfl (fun ls hl => ?_)
  refine lv_iload_n hx hb dX5_ofPowder_6 rfl (lv_at hl 3 rfl) ?_
  refine lv_tableIn (tgt := 60) hx hb dX5_ofPowder_7 (by decide) (by decide) rfl (by decide) ?_
  refine lv_aload_n hx hb dX5_ofPowder_60 rfl (lv_at hl 0 rfl) ?_
  refine hw_get hx hb hts hown hk hI fd_X5_125 e8_hb_ix_kahP rfl dX5_ofPowder_61 ?_
  exact hret hI (⟨by unfold st_ofPowder; exact (if_neg (fun q => q hk2)).trans ((if_neg (fun q => q (by decide))).trans rfl), rfl⟩) (Nat.le_of_ble_eq_true rfl) (Nat.le_of_ble_eq_true rfl) dX5_ofPowder_64

set_option maxHeartbeats 4000000 in
set_option maxRecDepth 100000 in
theorem m_X5_ofPowder_k0 (l : Launch) (Z : hw_Z) (M : hw_M) (ad : hp_ad) (S : hs_S) (T : hp_T) (b1 : Nat → Prop) (i : Nat) (hP : hp_ok Z b1 M ad S T) (hB : hs_b S) (hi : i < hs_nw S) : Met l yX5_ofPowder (hw_m yX5_ofPowder cX5_ofPowder 4 (some .int)) ({ frames := 9, cells := 0, slots := 0, locals := 190 } : Room) (va_Pc [.ref (ad 0 0), .int (nI i), .int (nI 0)] (hw_P Z M)) (hw_Qi Z (fun r M' => hs_V S i 0 = r ∧ M = M')) 0 0 (hw_A Z) := by
  refine hw_ofi (by decide +kernel) rfl (Nat.le_of_ble_eq_true rfl) ?_
  intro p e s m below meth c ls Q hx hb hml hown hts hk hnm hI hl hret
  have hnp := hB.np
  have hnw := hB.nw
  have e0_0hP : M (ad 0 0) = hw_ob 6 [.ref (ad 0 1), .ref (ad 0 2), .ref (ad 0 3), .int (nI (hs_np S)), .int (nI (hs_nw S)), .int (hs_G S 0), .int (hs_G S 1), .ref (ad 0 4), .ref (ad 0 8)] := hP.m 0 0 (by decide)
  have e0_2hP : M (ad 0 2) = hw_ar Z 4 6 (fun j => some (ad 8 j)) := hP.m 0 2 (by decide)
  refine lv_aload_n hx hb dX5_ofPowder_0 rfl (lv_at hl 0 rfl) ?_
  refine lv_iload_n hx hb dX5_ofPowder_1 rfl (lv_at hl 1 rfl) ?_
  refine hw_cr hI (hw_rV hx hb hml hown hts hk hI (m_X5_powderAt_k l Z M (ad 0 0) (ad 0 1) (ad 0 2) (ad 0 3) (ad 0 4) (ad 0 8) (hs_np S) (hs_nw S) (hs_G S 0) (hs_G S 1) i (ad 8) e0_0hP e0_2hP hnw hi) cv_X5_117 e0_0hP rfl rfl ⟨rfl, rfl⟩ ⟨(Nat.le_of_ble_eq_true rfl), (Nat.le_of_ble_eq_true rfl)⟩ rfl hl.1 rfl (Nat.le_of_ble_eq_true rfl) ⟨(Nat.le_of_ble_eq_true rfl), (Nat.le_of_ble_eq_true rfl)⟩ dX5_ofPowder_2) (fun r2 M2 H locs hR hI => ?_)
  obtain ⟨rfl, rfl⟩ := hR
  have hi4 : i < 6 := by omega
  have e8_ihP : M (ad 8 i) = hw_ob 4 [.int (nI i), .int (hs_V S i 0), .int (hs_V S i 1), .int (hs_V S i 2), .int (hs_V S i 3), .int (hs_V S i 4)] := hP.m 8 i hi4
  refine lv_astore_n (lv' := [(3, .ref (ad 8 i)), (0, .ref (ad 0 0)), (1, .int (nI i)), (2, .int (nI 0))]) hx hb dX5_ofPowder_5 rfl hl (by decide) rfl (fun ls hl => ?_)
  refine lv_iload_n hx hb dX5_ofPowder_6 rfl (lv_at hl 3 rfl) ?_
  refine lv_tableIn (tgt := 40) hx hb dX5_ofPowder_7 (by decide) (by decide) rfl (by decide) ?_
  refine lv_aload_n hx hb dX5_ofPowder_40 rfl (lv_at hl 0 rfl) ?_
  refine hw_get hx hb hts hown hk hI fd_X5_108 e8_ihP rfl dX5_ofPowder_41 ?_
  exact hret hI (⟨rfl, rfl⟩) (Nat.le_of_ble_eq_true rfl) (Nat.le_of_ble_eq_true rfl) dX5_ofPowder_44

set_option maxHeartbeats 4000000 in
set_option maxRecDepth 100000 in
theorem m_X5_ofPowder_k1 (l : Launch) (Z : hw_Z) (M : hw_M) (ad : hp_ad) (S : hs_S) (T : hp_T) (b1 : Nat → Prop) (i : Nat) (hP : hp_ok Z b1 M ad S T) (hB : hs_b S) (hi : i < hs_nw S) : Met l yX5_ofPowder (hw_m yX5_ofPowder cX5_ofPowder 4 (some .int)) ({ frames := 9, cells := 0, slots := 0, locals := 190 } : Room) (va_Pc [.ref (ad 0 0), .int (nI i), .int (nI 1)] (hw_P Z M)) (hw_Qi Z (fun r M' => hs_V S i 1 = r ∧ M = M')) 0 0 (hw_A Z) := by
  refine hw_ofi (by decide +kernel) rfl (Nat.le_of_ble_eq_true rfl) ?_
  intro p e s m below meth c ls Q hx hb hml hown hts hk hnm hI hl hret
  have hnp := hB.np
  have hnw := hB.nw
  have e0_0hP : M (ad 0 0) = hw_ob 6 [.ref (ad 0 1), .ref (ad 0 2), .ref (ad 0 3), .int (nI (hs_np S)), .int (nI (hs_nw S)), .int (hs_G S 0), .int (hs_G S 1), .ref (ad 0 4), .ref (ad 0 8)] := hP.m 0 0 (by decide)
  have e0_2hP : M (ad 0 2) = hw_ar Z 4 6 (fun j => some (ad 8 j)) := hP.m 0 2 (by decide)
  refine lv_aload_n hx hb dX5_ofPowder_0 rfl (lv_at hl 0 rfl) ?_
  refine lv_iload_n hx hb dX5_ofPowder_1 rfl (lv_at hl 1 rfl) ?_
  refine hw_cr hI (hw_rV hx hb hml hown hts hk hI (m_X5_powderAt_k l Z M (ad 0 0) (ad 0 1) (ad 0 2) (ad 0 3) (ad 0 4) (ad 0 8) (hs_np S) (hs_nw S) (hs_G S 0) (hs_G S 1) i (ad 8) e0_0hP e0_2hP hnw hi) cv_X5_117 e0_0hP rfl rfl ⟨rfl, rfl⟩ ⟨(Nat.le_of_ble_eq_true rfl), (Nat.le_of_ble_eq_true rfl)⟩ rfl hl.1 rfl (Nat.le_of_ble_eq_true rfl) ⟨(Nat.le_of_ble_eq_true rfl), (Nat.le_of_ble_eq_true rfl)⟩ dX5_ofPowder_2) (fun r2 M2 H locs hR hI => ?_)
  obtain ⟨rfl, rfl⟩ := hR
  have hi4 : i < 6 := by omega
  have e8_ihP : M (ad 8 i) = hw_ob 4 [.int (nI i), .int (hs_V S i 0), .int (hs_V S i 1), .int (hs_V S i 2), .int (hs_V S i 3), .int (hs_V S i 4)] := hP.m 8 i hi4
  refine lv_astore_n (lv' := [(3, .ref (ad 8 i)), (0, .ref (ad 0 0)), (1, .int (nI i)), (2, .int (nI 1))]) hx hb dX5_ofPowder_5 rfl hl (by decide) rfl (fun ls hl => ?_)
  refine lv_iload_n hx hb dX5_ofPowder_6 rfl (lv_at hl 3 rfl) ?_
  refine lv_tableIn (tgt := 45) hx hb dX5_ofPowder_7 (by decide) (by decide) rfl (by decide) ?_
  refine lv_aload_n hx hb dX5_ofPowder_45 rfl (lv_at hl 0 rfl) ?_
  refine hw_get hx hb hts hown hk hI fd_X5_111 e8_ihP rfl dX5_ofPowder_46 ?_
  exact hret hI (⟨rfl, rfl⟩) (Nat.le_of_ble_eq_true rfl) (Nat.le_of_ble_eq_true rfl) dX5_ofPowder_49

set_option maxHeartbeats 4000000 in
set_option maxRecDepth 100000 in
theorem m_X5_ofPowder_k2 (l : Launch) (Z : hw_Z) (M : hw_M) (ad : hp_ad) (S : hs_S) (T : hp_T) (b1 : Nat → Prop) (i : Nat) (hP : hp_ok Z b1 M ad S T) (hB : hs_b S) (hi : i < hs_nw S) : Met l yX5_ofPowder (hw_m yX5_ofPowder cX5_ofPowder 4 (some .int)) ({ frames := 9, cells := 0, slots := 0, locals := 190 } : Room) (va_Pc [.ref (ad 0 0), .int (nI i), .int (nI 2)] (hw_P Z M)) (hw_Qi Z (fun r M' => hs_V S i 2 = r ∧ M = M')) 0 0 (hw_A Z) := by
  refine hw_ofi (by decide +kernel) rfl (Nat.le_of_ble_eq_true rfl) ?_
  intro p e s m below meth c ls Q hx hb hml hown hts hk hnm hI hl hret
  have hnp := hB.np
  have hnw := hB.nw
  have e0_0hP : M (ad 0 0) = hw_ob 6 [.ref (ad 0 1), .ref (ad 0 2), .ref (ad 0 3), .int (nI (hs_np S)), .int (nI (hs_nw S)), .int (hs_G S 0), .int (hs_G S 1), .ref (ad 0 4), .ref (ad 0 8)] := hP.m 0 0 (by decide)
  have e0_2hP : M (ad 0 2) = hw_ar Z 4 6 (fun j => some (ad 8 j)) := hP.m 0 2 (by decide)
  refine lv_aload_n hx hb dX5_ofPowder_0 rfl (lv_at hl 0 rfl) ?_
  refine lv_iload_n hx hb dX5_ofPowder_1 rfl (lv_at hl 1 rfl) ?_
  refine hw_cr hI (hw_rV hx hb hml hown hts hk hI (m_X5_powderAt_k l Z M (ad 0 0) (ad 0 1) (ad 0 2) (ad 0 3) (ad 0 4) (ad 0 8) (hs_np S) (hs_nw S) (hs_G S 0) (hs_G S 1) i (ad 8) e0_0hP e0_2hP hnw hi) cv_X5_117 e0_0hP rfl rfl ⟨rfl, rfl⟩ ⟨(Nat.le_of_ble_eq_true rfl), (Nat.le_of_ble_eq_true rfl)⟩ rfl hl.1 rfl (Nat.le_of_ble_eq_true rfl) ⟨(Nat.le_of_ble_eq_true rfl), (Nat.le_of_ble_eq_true rfl)⟩ dX5_ofPowder_2) (fun r2 M2 H locs hR hI => ?_)
  obtain ⟨rfl, rfl⟩ := hR
  have hi4 : i < 6 := by omega
  have e8_ihP : M (ad 8 i) = hw_ob 4 [.int (nI i), .int (hs_V S i 0), .int (hs_V S i 1), .int (hs_V S i 2), .int (hs_V S i 3), .int (hs_V S i 4)] := hP.m 8 i hi4
  refine lv_astore_n (lv' := [(3, .ref (ad 8 i)), (0, .ref (ad 0 0)), (1, .int (nI i)), (2, .int (nI 2))]) hx hb dX5_ofPowder_5 rfl hl (by decide) rfl (fun ls hl => ?_)
  refine lv_iload_n hx hb dX5_ofPowder_6 rfl (lv_at hl 3 rfl) ?_
  refine lv_tableIn (tgt := 50) hx hb dX5_ofPowder_7 (by decide) (by decide) rfl (by decide) ?_
  refine lv_aload_n hx hb dX5_ofPowder_50 rfl (lv_at hl 0 rfl) ?_
  refine hw_get hx hb hts hown hk hI fd_X5_151 e8_ihP rfl dX5_ofPowder_51 ?_
  exact hret hI (⟨rfl, rfl⟩) (Nat.le_of_ble_eq_true rfl) (Nat.le_of_ble_eq_true rfl) dX5_ofPowder_54

set_option maxHeartbeats 4000000 in
set_option maxRecDepth 100000 in
theorem m_X5_ofPowder_k3 (l : Launch) (Z : hw_Z) (M : hw_M) (ad : hp_ad) (S : hs_S) (T : hp_T) (b1 : Nat → Prop) (i : Nat) (hP : hp_ok Z b1 M ad S T) (hB : hs_b S) (hi : i < hs_nw S) : Met l yX5_ofPowder (hw_m yX5_ofPowder cX5_ofPowder 4 (some .int)) ({ frames := 9, cells := 0, slots := 0, locals := 190 } : Room) (va_Pc [.ref (ad 0 0), .int (nI i), .int (nI 3)] (hw_P Z M)) (hw_Qi Z (fun r M' => hs_V S i 3 = r ∧ M = M')) 0 0 (hw_A Z) := by
  refine hw_ofi (by decide +kernel) rfl (Nat.le_of_ble_eq_true rfl) ?_
  intro p e s m below meth c ls Q hx hb hml hown hts hk hnm hI hl hret
  have hnp := hB.np
  have hnw := hB.nw
  have e0_0hP : M (ad 0 0) = hw_ob 6 [.ref (ad 0 1), .ref (ad 0 2), .ref (ad 0 3), .int (nI (hs_np S)), .int (nI (hs_nw S)), .int (hs_G S 0), .int (hs_G S 1), .ref (ad 0 4), .ref (ad 0 8)] := hP.m 0 0 (by decide)
  have e0_2hP : M (ad 0 2) = hw_ar Z 4 6 (fun j => some (ad 8 j)) := hP.m 0 2 (by decide)
  refine lv_aload_n hx hb dX5_ofPowder_0 rfl (lv_at hl 0 rfl) ?_
  refine lv_iload_n hx hb dX5_ofPowder_1 rfl (lv_at hl 1 rfl) ?_
  refine hw_cr hI (hw_rV hx hb hml hown hts hk hI (m_X5_powderAt_k l Z M (ad 0 0) (ad 0 1) (ad 0 2) (ad 0 3) (ad 0 4) (ad 0 8) (hs_np S) (hs_nw S) (hs_G S 0) (hs_G S 1) i (ad 8) e0_0hP e0_2hP hnw hi) cv_X5_117 e0_0hP rfl rfl ⟨rfl, rfl⟩ ⟨(Nat.le_of_ble_eq_true rfl), (Nat.le_of_ble_eq_true rfl)⟩ rfl hl.1 rfl (Nat.le_of_ble_eq_true rfl) ⟨(Nat.le_of_ble_eq_true rfl), (Nat.le_of_ble_eq_true rfl)⟩ dX5_ofPowder_2) (fun r2 M2 H locs hR hI => ?_)
  obtain ⟨rfl, rfl⟩ := hR
  have hi4 : i < 6 := by omega
  have e8_ihP : M (ad 8 i) = hw_ob 4 [.int (nI i), .int (hs_V S i 0), .int (hs_V S i 1), .int (hs_V S i 2), .int (hs_V S i 3), .int (hs_V S i 4)] := hP.m 8 i hi4
  refine lv_astore_n (lv' := [(3, .ref (ad 8 i)), (0, .ref (ad 0 0)), (1, .int (nI i)), (2, .int (nI 3))]) hx hb dX5_ofPowder_5 rfl hl (by decide) rfl (fun ls hl => ?_)
  refine lv_iload_n hx hb dX5_ofPowder_6 rfl (lv_at hl 3 rfl) ?_
  refine lv_tableIn (tgt := 55) hx hb dX5_ofPowder_7 (by decide) (by decide) rfl (by decide) ?_
  refine lv_aload_n hx hb dX5_ofPowder_55 rfl (lv_at hl 0 rfl) ?_
  refine hw_get hx hb hts hown hk hI fd_X5_295 e8_ihP rfl dX5_ofPowder_56 ?_
  exact hret hI (⟨rfl, rfl⟩) (Nat.le_of_ble_eq_true rfl) (Nat.le_of_ble_eq_true rfl) dX5_ofPowder_59

set_option maxHeartbeats 4000000 in
set_option maxRecDepth 100000 in
theorem m_X5_ofPowder_k4 (l : Launch) (Z : hw_Z) (M : hw_M) (ad : hp_ad) (S : hs_S) (T : hp_T) (b1 : Nat → Prop) (i : Nat) (hP : hp_ok Z b1 M ad S T) (hB : hs_b S) (hi : i < hs_nw S) : Met l yX5_ofPowder (hw_m yX5_ofPowder cX5_ofPowder 4 (some .int)) ({ frames := 9, cells := 0, slots := 0, locals := 190 } : Room) (va_Pc [.ref (ad 0 0), .int (nI i), .int (nI 4)] (hw_P Z M)) (hw_Qi Z (fun r M' => hs_V S i 4 = r ∧ M = M')) 0 0 (hw_A Z) := by
  refine hw_ofi (by decide +kernel) rfl (Nat.le_of_ble_eq_true rfl) ?_
  intro p e s m below meth c ls Q hx hb hml hown hts hk hnm hI hl hret
  have hnp := hB.np
  have hnw := hB.nw
  have e0_0hP : M (ad 0 0) = hw_ob 6 [.ref (ad 0 1), .ref (ad 0 2), .ref (ad 0 3), .int (nI (hs_np S)), .int (nI (hs_nw S)), .int (hs_G S 0), .int (hs_G S 1), .ref (ad 0 4), .ref (ad 0 8)] := hP.m 0 0 (by decide)
  have e0_2hP : M (ad 0 2) = hw_ar Z 4 6 (fun j => some (ad 8 j)) := hP.m 0 2 (by decide)
  refine lv_aload_n hx hb dX5_ofPowder_0 rfl (lv_at hl 0 rfl) ?_
  refine lv_iload_n hx hb dX5_ofPowder_1 rfl (lv_at hl 1 rfl) ?_
  refine hw_cr hI (hw_rV hx hb hml hown hts hk hI (m_X5_powderAt_k l Z M (ad 0 0) (ad 0 1) (ad 0 2) (ad 0 3) (ad 0 4) (ad 0 8) (hs_np S) (hs_nw S) (hs_G S 0) (hs_G S 1) i (ad 8) e0_0hP e0_2hP hnw hi) cv_X5_117 e0_0hP rfl rfl ⟨rfl, rfl⟩ ⟨(Nat.le_of_ble_eq_true rfl), (Nat.le_of_ble_eq_true rfl)⟩ rfl hl.1 rfl (Nat.le_of_ble_eq_true rfl) ⟨(Nat.le_of_ble_eq_true rfl), (Nat.le_of_ble_eq_true rfl)⟩ dX5_ofPowder_2) (fun r2 M2 H locs hR hI => ?_)
  obtain ⟨rfl, rfl⟩ := hR
  have hi4 : i < 6 := by omega
  have e8_ihP : M (ad 8 i) = hw_ob 4 [.int (nI i), .int (hs_V S i 0), .int (hs_V S i 1), .int (hs_V S i 2), .int (hs_V S i 3), .int (hs_V S i 4)] := hP.m 8 i hi4
  refine lv_astore_n (lv' := [(3, .ref (ad 8 i)), (0, .ref (ad 0 0)), (1, .int (nI i)), (2, .int (nI 4))]) hx hb dX5_ofPowder_5 rfl hl (by decide) rfl (fun ls hl => ?_)
  refine lv_iload_n hx hb dX5_ofPowder_6 rfl (lv_at hl 3 rfl) ?_
  refine lv_tableIn (tgt := 60) hx hb dX5_ofPowder_7 (by decide) (by decide) rfl (by decide) ?_
  refine lv_aload_n hx hb dX5_ofPowder_60 rfl (lv_at hl 0 rfl) ?_
  refine hw_get hx hb hts hown hk hI fd_X5_125 e8_ihP rfl dX5_ofPowder_61 ?_
  exact hret hI (⟨rfl, rfl⟩) (Nat.le_of_ble_eq_true rfl) (Nat.le_of_ble_eq_true rfl) dX5_ofPowder_64

set_option maxHeartbeats 4000000 in
set_option maxRecDepth 100000 in
theorem m_X5_ofPowder_o (l : Launch) (hst : l.stackTraces = false) (Z : hw_Z) (M : hw_M) (ad : hp_ad) (S : hs_S) (T : hp_T) (b1 : Nat → Prop) (ka : Int32) (kw : Int32) (hP : hp_ok Z b1 M ad S T) (hB : hs_b S) (hw : ¬ hb_ok kw 5) : vx_Met l yX5_ofPowder (hw_m yX5_ofPowder cX5_ofPowder 4 (some .int)) ({ frames := 9, cells := 6, slots := 36, locals := 190 } : Room) (va_Pc [.ref (ad 0 0), .int ka, .int kw] (hw_P Z M)) (hw_Qi Z (hq_N M S (st_ofPowder S ka kw))) (hw_X Z (hq_X ["java/lang/IndexOutOfBoundsException", "java/lang/IllegalArgumentException"] M S (st_ofPowder S ka kw))) 6 36 (hw_A Z) := by
  refine hw_xofi hst (by decide +kernel) rfl (Nat.le_of_ble_eq_true rfl) ?_
  intro p e s m below meth c ls Q hx hb hml hown hts hk hnm hI hl hret hxo hthr hthrW
  have hnp := hB.np
  have hnw := hB.nw
  have e0_0hP : M (ad 0 0) = hw_ob 6 [.ref (ad 0 1), .ref (ad 0 2), .ref (ad 0 3), .int (nI (hs_np S)), .int (nI (hs_nw S)), .int (hs_G S 0), .int (hs_G S 1), .ref (ad 0 4), .ref (ad 0 8)] := hP.m 0 0 (by decide)
  have e0_2hP : M (ad 0 2) = hw_ar Z 4 6 (fun j => some (ad 8 j)) := hP.m 0 2 (by decide)
  refine lv_aload_n hx hb dX5_ofPowder_0 rfl (lv_at hl 0 rfl) ?_
  refine lv_iload_n hx hb dX5_ofPowder_1 rfl (lv_at hl 1 rfl) ?_
  refine hw_xr hI hxo (hw_xV hx hb hml hown hts hk hI (m_X5_powderAt l hst Z M (ad 0 0) (ad 0 1) (ad 0 2) (ad 0 3) (ad 0 4) (ad 0 8) (hs_np S) (hs_nw S) (hs_G S 0) (hs_G S 1) ka (ad 8) e0_0hP e0_2hP hnw) cv_X5_117 e0_0hP rfl rfl ⟨rfl, rfl⟩ ⟨(Nat.le_of_ble_eq_true rfl), (Nat.le_of_ble_eq_true rfl)⟩ rfl hl.1 rfl (Nat.le_of_ble_eq_true rfl) ⟨(Nat.le_of_ble_eq_true rfl), (Nat.le_of_ble_eq_true rfl)⟩ dX5_ofPowder_2) (hq_xc (c := 1) (fun h => by unfold st_ofPowder; exact (hq_if h ⟨rfl, rfl⟩)) ⟨by decide, rfl⟩) (Nat.le_of_ble_eq_true rfl) (Nat.le_of_ble_eq_true rfl) (fun r2 M2 H locs hR hI => ?_)
  obtain ⟨⟨hk2, rfl⟩, rfl⟩ := hR
  refine lv_astore_n (lv' := [(3, .ref (ad 8 (hb_ix ka))), (0, .ref (ad 0 0)), (1, .int ka), (2, .int kw)]) hx hb dX5_ofPowder_5 rfl hl (by decide) rfl (fun ls hl => ?_)
  refine lv_iload_n hx hb dX5_ofPowder_6 rfl (lv_at hl 3 rfl) ?_
  refine lv_tableOut (tgt := 65) hx hb dX5_ofPowder_7 (by have := hq_out (n := 5) (by decide) hw; omega) (by decide) ?_
  exact hthrW hI th_X5_96_296_100 hl.1 dX5_ofPowder_65 dX5_ofPowder_68 dX5_ofPowder_69 dX5_ofPowder_72 dX5_ofPowder_75 (Nat.le_of_ble_eq_true rfl) (Nat.le_of_ble_eq_true rfl) (Nat.le_of_ble_eq_true rfl) (Nat.le_of_ble_eq_true rfl) (hq_x (c := 2) (by unfold st_ofPowder; exact (hq_el (fun q => q hk2) (hq_if hw ⟨rfl, rfl⟩))) ⟨by decide, rfl⟩ rfl) (Nat.le_of_ble_eq_true rfl) (Nat.le_of_ble_eq_true rfl)

theorem m_X5_ofPowder (l : Launch) (hst : l.stackTraces = false) (Z : hw_Z) (M : hw_M) (ad : hp_ad) (S : hs_S) (T : hp_T) (b1 : Nat → Prop) (ka : Int32) (kw : Int32) (hP : hp_ok Z b1 M ad S T) (hB : hs_b S) : vx_Met l yX5_ofPowder (hw_m yX5_ofPowder cX5_ofPowder 4 (some .int)) ({ frames := 9, cells := 6, slots := 36, locals := 190 } : Room) (va_Pc [.ref (ad 0 0), .int ka, .int kw] (hw_P Z M)) (hw_Qi Z (hq_N M S (st_ofPowder S ka kw))) (hw_X Z (hq_X ["java/lang/IndexOutOfBoundsException", "java/lang/IllegalArgumentException"] M S (st_ofPowder S ka kw))) 6 36 (hw_A Z) := by
  by_cases hw : hb_ok kw 5
  · obtain ⟨j, hj, rfl⟩ := hb_okj (by decide) hw
    rcases (show j = 0 ∨ j = 1 ∨ j = 2 ∨ j = 3 ∨ j = 4 by omega) with rfl | rfl | rfl | rfl | rfl
    · exact m_X5_ofPowder_0 l hst Z M ad S T b1 ka hP hB
    · exact m_X5_ofPowder_1 l hst Z M ad S T b1 ka hP hB
    · exact m_X5_ofPowder_2 l hst Z M ad S T b1 ka hP hB
    · exact m_X5_ofPowder_3 l hst Z M ad S T b1 ka hP hB
    · exact m_X5_ofPowder_4 l hst Z M ad S T b1 ka hP hB
  · exact m_X5_ofPowder_o l hst Z M ad S T b1 ka kw hP hB hw

theorem m_X5_ofPowder_k (l : Launch) (Z : hw_Z) (M : hw_M) (ad : hp_ad) (S : hs_S) (T : hp_T) (b1 : Nat → Prop) (i : Nat) (w : Nat) (hP : hp_ok Z b1 M ad S T) (hB : hs_b S) (hi : i < hs_nw S) (hw : w < 5) : Met l yX5_ofPowder (hw_m yX5_ofPowder cX5_ofPowder 4 (some .int)) ({ frames := 9, cells := 0, slots := 0, locals := 190 } : Room) (va_Pc [.ref (ad 0 0), .int (nI i), .int (nI w)] (hw_P Z M)) (hw_Qi Z (fun r M' => hs_V S i w = r ∧ M = M')) 0 0 (hw_A Z) := by
  rcases (show w = 0 ∨ w = 1 ∨ w = 2 ∨ w = 3 ∨ w = 4 by omega) with rfl | rfl | rfl | rfl | rfl
  · exact m_X5_ofPowder_k0 l Z M ad S T b1 i hP hB hi
  · exact m_X5_ofPowder_k1 l Z M ad S T b1 i hP hB hi
  · exact m_X5_ofPowder_k2 l Z M ad S T b1 i hP hB hi
  · exact m_X5_ofPowder_k3 l Z M ad S T b1 i hP hB hi
  · exact m_X5_ofPowder_k4 l Z M ad S T b1 i hP hB hi

set_option maxHeartbeats 4000000 in
set_option maxRecDepth 100000 in
theorem m_X5_ofMachine_0 (l : Launch) (hst : l.stackTraces = false) (Z : hw_Z) (M : hw_M) (ad : hp_ad) (S : hs_S) (T : hp_T) (b1 : Nat → Prop) (ka : Int32) (hP : hp_ok Z b1 M ad S T) (hB : hs_b S) : vx_Met l yX5_ofMachine (hw_m yX5_ofMachine cX5_ofMachine 4 (some .int)) ({ frames := 9, cells := 6, slots := 36, locals := 190 } : Room) (va_Pc [.ref (ad 0 0), .int ka, .int (nI 0)] (hw_P Z M)) (hw_Qi Z (hq_N M S (st_ofMachine S ka (nI 0)))) (hw_X Z (hq_X ["java/lang/IndexOutOfBoundsException", "java/lang/IllegalArgumentException"] M S (st_ofMachine S ka (nI 0)))) 6 36 (hw_A Z) := by
  refine hw_xofi hst (by decide +kernel) rfl (Nat.le_of_ble_eq_true rfl) ?_
  intro p e s m below meth c ls Q hx hb hml hown hts hk hnm hI hl hret hxo hthr hthrW
  have hnp := hB.np
  have hnw := hB.nw
  have e0_0hP : M (ad 0 0) = hw_ob 6 [.ref (ad 0 1), .ref (ad 0 2), .ref (ad 0 3), .int (nI (hs_np S)), .int (nI (hs_nw S)), .int (hs_G S 0), .int (hs_G S 1), .ref (ad 0 4), .ref (ad 0 8)] := hP.m 0 0 (by decide)
  have e0_3hP : M (ad 0 3) = hw_ar Z 5 2 (fun j => some (ad 9 j)) := hP.m 0 3 (by decide)
  refine lv_aload_n hx hb dX5_ofMachine_0 rfl (lv_at hl 0 rfl) ?_
  refine lv_iload_n hx hb dX5_ofMachine_1 rfl (lv_at hl 1 rfl) ?_
  refine hw_xr hI hxo (hw_xV hx hb hml hown hts hk hI (m_X5_machineAt l hst Z M (ad 0 0) (ad 0 1) (ad 0 2) (ad 0 3) (ad 0 4) (ad 0 8) (hs_np S) (hs_nw S) (hs_G S 0) (hs_G S 1) ka (ad 9) e0_0hP e0_3hP) cv_X5_134 e0_0hP rfl rfl ⟨rfl, rfl⟩ ⟨(Nat.le_of_ble_eq_true rfl), (Nat.le_of_ble_eq_true rfl)⟩ rfl hl.1 rfl (Nat.le_of_ble_eq_true rfl) ⟨(Nat.le_of_ble_eq_true rfl), (Nat.le_of_ble_eq_true rfl)⟩ dX5_ofMachine_2) (hq_xc (c := 1) (fun h => by unfold st_ofMachine; exact (hq_if h ⟨rfl, rfl⟩)) ⟨by decide, rfl⟩) (Nat.le_of_ble_eq_true rfl) (Nat.le_of_ble_eq_true rfl) (fun r2 M2 H locs hR hI => ?_)
  obtain ⟨⟨hk2, rfl⟩, rfl⟩ := hR
  have hx2 := hb_okx (by omega) hk2
  have hi2 : hb_ix ka < 2 := by have := hx2.1; omega
  have e9_hb_ix_kahP : M (ad 9 (hb_ix ka)) = hw_ob 1 [.int (nI (hb_ix ka)), .int (hs_M S (hb_ix ka) 0), hp_ref (ad 8) (hs_M S (hb_ix ka) 1), .int (hs_M S (hb_ix ka) 2), hp_ref (ad 1) (hs_M S (hb_ix ka) 3), .ref (ad 10 (hb_ix ka)), .int (nI (hs_N S (hb_ix ka)))] := hP.m 9 (hb_ix ka) hi2
  refine lv_astore_n (lv' := [(3, .ref (ad 9 (hb_ix ka))), (0, .ref (ad 0 0)), (1, .int ka), (2, .int (nI 0))]) hx hb dX5_ofMachine_5 rfl hl (by decide) rfl (fun ls hl => ?_)
  refine lv_iload_n hx hb dX5_ofMachine_6 rfl (lv_at hl 3 rfl) ?_
  refine lv_tableIn (tgt := 40) hx hb dX5_ofMachine_7 (by decide) (by decide) rfl (by decide) ?_
  refine lv_aload_n hx hb dX5_ofMachine_40 rfl (lv_at hl 0 rfl) ?_
  refine hw_get hx hb hts hown hk hI fd_X5_148 e9_hb_ix_kahP rfl dX5_ofMachine_41 ?_
  exact hret hI (⟨by unfold st_ofMachine; exact (if_neg (fun q => q hk2)).trans ((if_neg (fun q => q (by decide))).trans rfl), rfl⟩) (Nat.le_of_ble_eq_true rfl) (Nat.le_of_ble_eq_true rfl) dX5_ofMachine_44

set_option maxHeartbeats 4000000 in
set_option maxRecDepth 100000 in
theorem m_X5_ofMachine_1n (l : Launch) (hst : l.stackTraces = false) (Z : hw_Z) (M : hw_M) (ad : hp_ad) (S : hs_S) (T : hp_T) (b1 : Nat → Prop) (ka : Int32) (hP : hp_ok Z b1 M ad S T) (hB : hs_b S) (hm : hs_M S (hb_ix ka) 1 = -1) : vx_Met l yX5_ofMachine (hw_m yX5_ofMachine cX5_ofMachine 4 (some .int)) ({ frames := 9, cells := 6, slots := 36, locals := 190 } : Room) (va_Pc [.ref (ad 0 0), .int ka, .int (nI 1)] (hw_P Z M)) (hw_Qi Z (hq_N M S (st_ofMachine S ka (nI 1)))) (hw_X Z (hq_X ["java/lang/IndexOutOfBoundsException", "java/lang/IllegalArgumentException"] M S (st_ofMachine S ka (nI 1)))) 6 36 (hw_A Z) := by
  refine hw_xofi hst (by decide +kernel) rfl (Nat.le_of_ble_eq_true rfl) ?_
  intro p e s m below meth c ls Q hx hb hml hown hts hk hnm hI hl hret hxo hthr hthrW
  have hnp := hB.np
  have hnw := hB.nw
  have e0_0hP : M (ad 0 0) = hw_ob 6 [.ref (ad 0 1), .ref (ad 0 2), .ref (ad 0 3), .int (nI (hs_np S)), .int (nI (hs_nw S)), .int (hs_G S 0), .int (hs_G S 1), .ref (ad 0 4), .ref (ad 0 8)] := hP.m 0 0 (by decide)
  have e0_3hP : M (ad 0 3) = hw_ar Z 5 2 (fun j => some (ad 9 j)) := hP.m 0 3 (by decide)
  refine lv_aload_n hx hb dX5_ofMachine_0 rfl (lv_at hl 0 rfl) ?_
  refine lv_iload_n hx hb dX5_ofMachine_1 rfl (lv_at hl 1 rfl) ?_
  refine hw_xr hI hxo (hw_xV hx hb hml hown hts hk hI (m_X5_machineAt l hst Z M (ad 0 0) (ad 0 1) (ad 0 2) (ad 0 3) (ad 0 4) (ad 0 8) (hs_np S) (hs_nw S) (hs_G S 0) (hs_G S 1) ka (ad 9) e0_0hP e0_3hP) cv_X5_134 e0_0hP rfl rfl ⟨rfl, rfl⟩ ⟨(Nat.le_of_ble_eq_true rfl), (Nat.le_of_ble_eq_true rfl)⟩ rfl hl.1 rfl (Nat.le_of_ble_eq_true rfl) ⟨(Nat.le_of_ble_eq_true rfl), (Nat.le_of_ble_eq_true rfl)⟩ dX5_ofMachine_2) (hq_xc (c := 1) (fun h => by unfold st_ofMachine; exact (hq_if h ⟨rfl, rfl⟩)) ⟨by decide, rfl⟩) (Nat.le_of_ble_eq_true rfl) (Nat.le_of_ble_eq_true rfl) (fun r2 M2 H locs hR hI => ?_)
  obtain ⟨⟨hk2, rfl⟩, rfl⟩ := hR
  have hx2 := hb_okx (by omega) hk2
  have hi2 : hb_ix ka < 2 := by have := hx2.1; omega
  have e9_hb_ix_kahP : M (ad 9 (hb_ix ka)) = hw_ob 1 [.int (nI (hb_ix ka)), .int (hs_M S (hb_ix ka) 0), .null, .int (hs_M S (hb_ix ka) 2), hp_ref (ad 1) (hs_M S (hb_ix ka) 3), .ref (ad 10 (hb_ix ka)), .int (nI (hs_N S (hb_ix ka)))] := by
    have q := hP.m 9 (hb_ix ka) hi2
    rw [show hp_e Z ad S T 9 (hb_ix ka) = hw_ob 1 [.int (nI (hb_ix ka)), .int (hs_M S (hb_ix ka) 0), hp_ref (ad 8) (hs_M S (hb_ix ka) 1), .int (hs_M S (hb_ix ka) 2), hp_ref (ad 1) (hs_M S (hb_ix ka) 3), .ref (ad 10 (hb_ix ka)), .int (nI (hs_N S (hb_ix ka)))] from rfl] at q
    rw [hp_refn hm] at q
    exact q
  refine lv_astore_n (lv' := [(3, .ref (ad 9 (hb_ix ka))), (0, .ref (ad 0 0)), (1, .int ka), (2, .int (nI 1))]) hx hb dX5_ofMachine_5 rfl hl (by decide) rfl (fun ls hl => ?_)
  refine lv_iload_n hx hb dX5_ofMachine_6 rfl (lv_at hl 3 rfl) ?_
  refine lv_tableIn (tgt := 45) hx hb dX5_ofMachine_7 (by decide) (by decide) rfl (by decide) ?_
  refine lv_aload_n hx hb dX5_ofMachine_45 rfl (lv_at hl 0 rfl) ?_
  refine hw_get hx hb hts hown hk hI fd_X5_138 e9_hb_ix_kahP rfl dX5_ofMachine_46 ?_
  refine lv_ifnonnullN hx hb dX5_ofMachine_49 ?_
  refine lv_iconst (v := (-1)) hx hb dX5_ofMachine_52 (by decide) ?_
  refine lv_goto (tgt := 63) hx hb dX5_ofMachine_53 (by decide) ?_
  exact hret hI (⟨by unfold st_ofMachine; exact (if_neg (fun q => q hk2)).trans ((if_neg (fun q => q (by decide))).trans (hq_eq hm)), rfl⟩) (Nat.le_of_ble_eq_true rfl) (Nat.le_of_ble_eq_true rfl) dX5_ofMachine_63

set_option maxHeartbeats 4000000 in
set_option maxRecDepth 100000 in
theorem m_X5_ofMachine_1s (l : Launch) (hst : l.stackTraces = false) (Z : hw_Z) (M : hw_M) (ad : hp_ad) (S : hs_S) (T : hp_T) (b1 : Nat → Prop) (ka : Int32) (hP : hp_ok Z b1 M ad S T) (hB : hs_b S) (hm : ¬ hs_M S (hb_ix ka) 1 = -1) : vx_Met l yX5_ofMachine (hw_m yX5_ofMachine cX5_ofMachine 4 (some .int)) ({ frames := 9, cells := 6, slots := 36, locals := 190 } : Room) (va_Pc [.ref (ad 0 0), .int ka, .int (nI 1)] (hw_P Z M)) (hw_Qi Z (hq_N M S (st_ofMachine S ka (nI 1)))) (hw_X Z (hq_X ["java/lang/IndexOutOfBoundsException", "java/lang/IllegalArgumentException"] M S (st_ofMachine S ka (nI 1)))) 6 36 (hw_A Z) := by
  refine hw_xofi hst (by decide +kernel) rfl (Nat.le_of_ble_eq_true rfl) ?_
  intro p e s m below meth c ls Q hx hb hml hown hts hk hnm hI hl hret hxo hthr hthrW
  have hnp := hB.np
  have hnw := hB.nw
  have e0_0hP : M (ad 0 0) = hw_ob 6 [.ref (ad 0 1), .ref (ad 0 2), .ref (ad 0 3), .int (nI (hs_np S)), .int (nI (hs_nw S)), .int (hs_G S 0), .int (hs_G S 1), .ref (ad 0 4), .ref (ad 0 8)] := hP.m 0 0 (by decide)
  have e0_3hP : M (ad 0 3) = hw_ar Z 5 2 (fun j => some (ad 9 j)) := hP.m 0 3 (by decide)
  refine lv_aload_n hx hb dX5_ofMachine_0 rfl (lv_at hl 0 rfl) ?_
  refine lv_iload_n hx hb dX5_ofMachine_1 rfl (lv_at hl 1 rfl) ?_
  refine hw_xr hI hxo (hw_xV hx hb hml hown hts hk hI (m_X5_machineAt l hst Z M (ad 0 0) (ad 0 1) (ad 0 2) (ad 0 3) (ad 0 4) (ad 0 8) (hs_np S) (hs_nw S) (hs_G S 0) (hs_G S 1) ka (ad 9) e0_0hP e0_3hP) cv_X5_134 e0_0hP rfl rfl ⟨rfl, rfl⟩ ⟨(Nat.le_of_ble_eq_true rfl), (Nat.le_of_ble_eq_true rfl)⟩ rfl hl.1 rfl (Nat.le_of_ble_eq_true rfl) ⟨(Nat.le_of_ble_eq_true rfl), (Nat.le_of_ble_eq_true rfl)⟩ dX5_ofMachine_2) (hq_xc (c := 1) (fun h => by unfold st_ofMachine; exact (hq_if h ⟨rfl, rfl⟩)) ⟨by decide, rfl⟩) (Nat.le_of_ble_eq_true rfl) (Nat.le_of_ble_eq_true rfl) (fun r2 M2 H locs hR hI => ?_)
  obtain ⟨⟨hk2, rfl⟩, rfl⟩ := hR
  have hx2 := hb_okx (by omega) hk2
  have hi2 : hb_ix ka < 2 := by have := hx2.1; omega
  have hig : hb_ix (hs_M S (hb_ix ka) 1) < 6 := hB.mp hi2 hm
  have e9_hb_ix_kahP : M (ad 9 (hb_ix ka)) = hw_ob 1 [.int (nI (hb_ix ka)), .int (hs_M S (hb_ix ka) 0), .ref (ad 8 (hb_ix (hs_M S (hb_ix ka) 1))), .int (hs_M S (hb_ix ka) 2), hp_ref (ad 1) (hs_M S (hb_ix ka) 3), .ref (ad 10 (hb_ix ka)), .int (nI (hs_N S (hb_ix ka)))] := by
    have q := hP.m 9 (hb_ix ka) hi2
    rw [show hp_e Z ad S T 9 (hb_ix ka) = hw_ob 1 [.int (nI (hb_ix ka)), .int (hs_M S (hb_ix ka) 0), hp_ref (ad 8) (hs_M S (hb_ix ka) 1), .int (hs_M S (hb_ix ka) 2), hp_ref (ad 1) (hs_M S (hb_ix ka) 3), .ref (ad 10 (hb_ix ka)), .int (nI (hs_N S (hb_ix ka)))] from rfl] at q
    rw [hp_refs hm] at q
    exact q
  have e8_hb_ix_hs_M_S_hb_ix_ka_1hP : M (ad 8 (hb_ix (hs_M S (hb_ix ka) 1))) = hw_ob 4 [.int (nI (hb_ix (hs_M S (hb_ix ka) 1))), .int (hs_V S (hb_ix (hs_M S (hb_ix ka) 1)) 0), .int (hs_V S (hb_ix (hs_M S (hb_ix ka) 1)) 1), .int (hs_V S (hb_ix (hs_M S (hb_ix ka) 1)) 2), .int (hs_V S (hb_ix (hs_M S (hb_ix ka) 1)) 3), .int (hs_V S (hb_ix (hs_M S (hb_ix ka) 1)) 4)] := hP.m 8 (hb_ix (hs_M S (hb_ix ka) 1)) hig
  refine lv_astore_n (lv' := [(3, .ref (ad 9 (hb_ix ka))), (0, .ref (ad 0 0)), (1, .int ka), (2, .int (nI 1))]) hx hb dX5_ofMachine_5 rfl hl (by decide) rfl (fun ls hl => ?_)
  refine lv_iload_n hx hb dX5_ofMachine_6 rfl (lv_at hl 3 rfl) ?_
  refine lv_tableIn (tgt := 45) hx hb dX5_ofMachine_7 (by decide) (by decide) rfl (by decide) ?_
  refine lv_aload_n hx hb dX5_ofMachine_45 rfl (lv_at hl 0 rfl) ?_
  refine hw_get hx hb hts hown hk hI fd_X5_138 e9_hb_ix_kahP rfl dX5_ofMachine_46 ?_
  refine lv_ifnonnull (tgt := 56) hx hb dX5_ofMachine_49 (by decide) ?_
  refine lv_aload_n hx hb dX5_ofMachine_56 rfl (lv_at hl 0 rfl) ?_
  refine hw_get hx hb hts hown hk hI fd_X5_138 e9_hb_ix_kahP rfl dX5_ofMachine_57 ?_
  refine hw_get hx hb hts hown hk hI fd_X5_114 e8_hb_ix_hs_M_S_hb_ix_ka_1hP rfl dX5_ofMachine_60 ?_
  exact hret hI (⟨by unfold st_ofMachine; exact (if_neg (fun q => q hk2)).trans ((if_neg (fun q => q (by decide))).trans (hq_eq (hB.mpx hi2 hm).symm)), rfl⟩) (Nat.le_of_ble_eq_true rfl) (Nat.le_of_ble_eq_true rfl) dX5_ofMachine_63

theorem m_X5_ofMachine_1 (l : Launch) (hst : l.stackTraces = false) (Z : hw_Z) (M : hw_M) (ad : hp_ad) (S : hs_S) (T : hp_T) (b1 : Nat → Prop) (ka : Int32) (hP : hp_ok Z b1 M ad S T) (hB : hs_b S) : vx_Met l yX5_ofMachine (hw_m yX5_ofMachine cX5_ofMachine 4 (some .int)) ({ frames := 9, cells := 6, slots := 36, locals := 190 } : Room) (va_Pc [.ref (ad 0 0), .int ka, .int (nI 1)] (hw_P Z M)) (hw_Qi Z (hq_N M S (st_ofMachine S ka (nI 1)))) (hw_X Z (hq_X ["java/lang/IndexOutOfBoundsException", "java/lang/IllegalArgumentException"] M S (st_ofMachine S ka (nI 1)))) 6 36 (hw_A Z) := by
  by_cases hc : hs_M S (hb_ix ka) 1 = -1
  · exact m_X5_ofMachine_1n l hst Z M ad S T b1 ka hP hB hc
  · exact m_X5_ofMachine_1s l hst Z M ad S T b1 ka hP hB hc

set_option maxHeartbeats 4000000 in
set_option maxRecDepth 100000 in
theorem m_X5_ofMachine_2 (l : Launch) (hst : l.stackTraces = false) (Z : hw_Z) (M : hw_M) (ad : hp_ad) (S : hs_S) (T : hp_T) (b1 : Nat → Prop) (ka : Int32) (hP : hp_ok Z b1 M ad S T) (hB : hs_b S) : vx_Met l yX5_ofMachine (hw_m yX5_ofMachine cX5_ofMachine 4 (some .int)) ({ frames := 9, cells := 6, slots := 36, locals := 190 } : Room) (va_Pc [.ref (ad 0 0), .int ka, .int (nI 2)] (hw_P Z M)) (hw_Qi Z (hq_N M S (st_ofMachine S ka (nI 2)))) (hw_X Z (hq_X ["java/lang/IndexOutOfBoundsException", "java/lang/IllegalArgumentException"] M S (st_ofMachine S ka (nI 2)))) 6 36 (hw_A Z) := by
  refine hw_xofi hst (by decide +kernel) rfl (Nat.le_of_ble_eq_true rfl) ?_
  intro p e s m below meth c ls Q hx hb hml hown hts hk hnm hI hl hret hxo hthr hthrW
  have hnp := hB.np
  have hnw := hB.nw
  have e0_0hP : M (ad 0 0) = hw_ob 6 [.ref (ad 0 1), .ref (ad 0 2), .ref (ad 0 3), .int (nI (hs_np S)), .int (nI (hs_nw S)), .int (hs_G S 0), .int (hs_G S 1), .ref (ad 0 4), .ref (ad 0 8)] := hP.m 0 0 (by decide)
  have e0_3hP : M (ad 0 3) = hw_ar Z 5 2 (fun j => some (ad 9 j)) := hP.m 0 3 (by decide)
  refine lv_aload_n hx hb dX5_ofMachine_0 rfl (lv_at hl 0 rfl) ?_
  refine lv_iload_n hx hb dX5_ofMachine_1 rfl (lv_at hl 1 rfl) ?_
  refine hw_xr hI hxo (hw_xV hx hb hml hown hts hk hI (m_X5_machineAt l hst Z M (ad 0 0) (ad 0 1) (ad 0 2) (ad 0 3) (ad 0 4) (ad 0 8) (hs_np S) (hs_nw S) (hs_G S 0) (hs_G S 1) ka (ad 9) e0_0hP e0_3hP) cv_X5_134 e0_0hP rfl rfl ⟨rfl, rfl⟩ ⟨(Nat.le_of_ble_eq_true rfl), (Nat.le_of_ble_eq_true rfl)⟩ rfl hl.1 rfl (Nat.le_of_ble_eq_true rfl) ⟨(Nat.le_of_ble_eq_true rfl), (Nat.le_of_ble_eq_true rfl)⟩ dX5_ofMachine_2) (hq_xc (c := 1) (fun h => by unfold st_ofMachine; exact (hq_if h ⟨rfl, rfl⟩)) ⟨by decide, rfl⟩) (Nat.le_of_ble_eq_true rfl) (Nat.le_of_ble_eq_true rfl) (fun r2 M2 H locs hR hI => ?_)
  obtain ⟨⟨hk2, rfl⟩, rfl⟩ := hR
  have hx2 := hb_okx (by omega) hk2
  have hi2 : hb_ix ka < 2 := by have := hx2.1; omega
  have e9_hb_ix_kahP : M (ad 9 (hb_ix ka)) = hw_ob 1 [.int (nI (hb_ix ka)), .int (hs_M S (hb_ix ka) 0), hp_ref (ad 8) (hs_M S (hb_ix ka) 1), .int (hs_M S (hb_ix ka) 2), hp_ref (ad 1) (hs_M S (hb_ix ka) 3), .ref (ad 10 (hb_ix ka)), .int (nI (hs_N S (hb_ix ka)))] := hP.m 9 (hb_ix ka) hi2
  refine lv_astore_n (lv' := [(3, .ref (ad 9 (hb_ix ka))), (0, .ref (ad 0 0)), (1, .int ka), (2, .int (nI 2))]) hx hb dX5_ofMachine_5 rfl hl (by decide) rfl (fun ls hl => ?_)
  refine lv_iload_n hx hb dX5_ofMachine_6 rfl (lv_at hl 3 rfl) ?_
  refine lv_tableIn (tgt := 64) hx hb dX5_ofMachine_7 (by decide) (by decide) rfl (by decide) ?_
  refine lv_aload_n hx hb dX5_ofMachine_64 rfl (lv_at hl 0 rfl) ?_
  refine hw_get hx hb hts hown hk hI fd_X5_157 e9_hb_ix_kahP rfl dX5_ofMachine_65 ?_
  exact hret hI (⟨by unfold st_ofMachine; exact (if_neg (fun q => q hk2)).trans ((if_neg (fun q => q (by decide))).trans rfl), rfl⟩) (Nat.le_of_ble_eq_true rfl) (Nat.le_of_ble_eq_true rfl) dX5_ofMachine_68

set_option maxHeartbeats 4000000 in
set_option maxRecDepth 100000 in
theorem m_X5_ofMachine_3n (l : Launch) (hst : l.stackTraces = false) (Z : hw_Z) (M : hw_M) (ad : hp_ad) (S : hs_S) (T : hp_T) (b1 : Nat → Prop) (ka : Int32) (hP : hp_ok Z b1 M ad S T) (hB : hs_b S) (hm : hs_M S (hb_ix ka) 3 = -1) : vx_Met l yX5_ofMachine (hw_m yX5_ofMachine cX5_ofMachine 4 (some .int)) ({ frames := 9, cells := 6, slots := 36, locals := 190 } : Room) (va_Pc [.ref (ad 0 0), .int ka, .int (nI 3)] (hw_P Z M)) (hw_Qi Z (hq_N M S (st_ofMachine S ka (nI 3)))) (hw_X Z (hq_X ["java/lang/IndexOutOfBoundsException", "java/lang/IllegalArgumentException"] M S (st_ofMachine S ka (nI 3)))) 6 36 (hw_A Z) := by
  refine hw_xofi hst (by decide +kernel) rfl (Nat.le_of_ble_eq_true rfl) ?_
  intro p e s m below meth c ls Q hx hb hml hown hts hk hnm hI hl hret hxo hthr hthrW
  have hnp := hB.np
  have hnw := hB.nw
  have e0_0hP : M (ad 0 0) = hw_ob 6 [.ref (ad 0 1), .ref (ad 0 2), .ref (ad 0 3), .int (nI (hs_np S)), .int (nI (hs_nw S)), .int (hs_G S 0), .int (hs_G S 1), .ref (ad 0 4), .ref (ad 0 8)] := hP.m 0 0 (by decide)
  have e0_3hP : M (ad 0 3) = hw_ar Z 5 2 (fun j => some (ad 9 j)) := hP.m 0 3 (by decide)
  refine lv_aload_n hx hb dX5_ofMachine_0 rfl (lv_at hl 0 rfl) ?_
  refine lv_iload_n hx hb dX5_ofMachine_1 rfl (lv_at hl 1 rfl) ?_
  refine hw_xr hI hxo (hw_xV hx hb hml hown hts hk hI (m_X5_machineAt l hst Z M (ad 0 0) (ad 0 1) (ad 0 2) (ad 0 3) (ad 0 4) (ad 0 8) (hs_np S) (hs_nw S) (hs_G S 0) (hs_G S 1) ka (ad 9) e0_0hP e0_3hP) cv_X5_134 e0_0hP rfl rfl ⟨rfl, rfl⟩ ⟨(Nat.le_of_ble_eq_true rfl), (Nat.le_of_ble_eq_true rfl)⟩ rfl hl.1 rfl (Nat.le_of_ble_eq_true rfl) ⟨(Nat.le_of_ble_eq_true rfl), (Nat.le_of_ble_eq_true rfl)⟩ dX5_ofMachine_2) (hq_xc (c := 1) (fun h => by unfold st_ofMachine; exact (hq_if h ⟨rfl, rfl⟩)) ⟨by decide, rfl⟩) (Nat.le_of_ble_eq_true rfl) (Nat.le_of_ble_eq_true rfl) (fun r2 M2 H locs hR hI => ?_)
  obtain ⟨⟨hk2, rfl⟩, rfl⟩ := hR
  have hx2 := hb_okx (by omega) hk2
  have hi2 : hb_ix ka < 2 := by have := hx2.1; omega
  have e9_hb_ix_kahP : M (ad 9 (hb_ix ka)) = hw_ob 1 [.int (nI (hb_ix ka)), .int (hs_M S (hb_ix ka) 0), hp_ref (ad 8) (hs_M S (hb_ix ka) 1), .int (hs_M S (hb_ix ka) 2), .null, .ref (ad 10 (hb_ix ka)), .int (nI (hs_N S (hb_ix ka)))] := by
    have q := hP.m 9 (hb_ix ka) hi2
    rw [show hp_e Z ad S T 9 (hb_ix ka) = hw_ob 1 [.int (nI (hb_ix ka)), .int (hs_M S (hb_ix ka) 0), hp_ref (ad 8) (hs_M S (hb_ix ka) 1), .int (hs_M S (hb_ix ka) 2), hp_ref (ad 1) (hs_M S (hb_ix ka) 3), .ref (ad 10 (hb_ix ka)), .int (nI (hs_N S (hb_ix ka)))] from rfl] at q
    rw [hp_refn hm] at q
    exact q
  refine lv_astore_n (lv' := [(3, .ref (ad 9 (hb_ix ka))), (0, .ref (ad 0 0)), (1, .int ka), (2, .int (nI 3))]) hx hb dX5_ofMachine_5 rfl hl (by decide) rfl (fun ls hl => ?_)
  refine lv_iload_n hx hb dX5_ofMachine_6 rfl (lv_at hl 3 rfl) ?_
  refine lv_tableIn (tgt := 69) hx hb dX5_ofMachine_7 (by decide) (by decide) rfl (by decide) ?_
  refine lv_aload_n hx hb dX5_ofMachine_69 rfl (lv_at hl 0 rfl) ?_
  refine hw_get hx hb hts hown hk hI fd_X5_162 e9_hb_ix_kahP rfl dX5_ofMachine_70 ?_
  refine lv_ifnonnullN hx hb dX5_ofMachine_73 ?_
  refine lv_iconst (v := (-1)) hx hb dX5_ofMachine_76 (by decide) ?_
  refine lv_goto (tgt := 87) hx hb dX5_ofMachine_77 (by decide) ?_
  exact hret hI (⟨by unfold st_ofMachine; exact (if_neg (fun q => q hk2)).trans ((if_neg (fun q => q (by decide))).trans (hq_eq hm)), rfl⟩) (Nat.le_of_ble_eq_true rfl) (Nat.le_of_ble_eq_true rfl) dX5_ofMachine_87

set_option maxHeartbeats 4000000 in
set_option maxRecDepth 100000 in
theorem m_X5_ofMachine_3s (l : Launch) (hst : l.stackTraces = false) (Z : hw_Z) (M : hw_M) (ad : hp_ad) (S : hs_S) (T : hp_T) (b1 : Nat → Prop) (ka : Int32) (hP : hp_ok Z b1 M ad S T) (hB : hs_b S) (hm : ¬ hs_M S (hb_ix ka) 3 = -1) : vx_Met l yX5_ofMachine (hw_m yX5_ofMachine cX5_ofMachine 4 (some .int)) ({ frames := 9, cells := 6, slots := 36, locals := 190 } : Room) (va_Pc [.ref (ad 0 0), .int ka, .int (nI 3)] (hw_P Z M)) (hw_Qi Z (hq_N M S (st_ofMachine S ka (nI 3)))) (hw_X Z (hq_X ["java/lang/IndexOutOfBoundsException", "java/lang/IllegalArgumentException"] M S (st_ofMachine S ka (nI 3)))) 6 36 (hw_A Z) := by
  refine hw_xofi hst (by decide +kernel) rfl (Nat.le_of_ble_eq_true rfl) ?_
  intro p e s m below meth c ls Q hx hb hml hown hts hk hnm hI hl hret hxo hthr hthrW
  have hnp := hB.np
  have hnw := hB.nw
  have e0_0hP : M (ad 0 0) = hw_ob 6 [.ref (ad 0 1), .ref (ad 0 2), .ref (ad 0 3), .int (nI (hs_np S)), .int (nI (hs_nw S)), .int (hs_G S 0), .int (hs_G S 1), .ref (ad 0 4), .ref (ad 0 8)] := hP.m 0 0 (by decide)
  have e0_3hP : M (ad 0 3) = hw_ar Z 5 2 (fun j => some (ad 9 j)) := hP.m 0 3 (by decide)
  refine lv_aload_n hx hb dX5_ofMachine_0 rfl (lv_at hl 0 rfl) ?_
  refine lv_iload_n hx hb dX5_ofMachine_1 rfl (lv_at hl 1 rfl) ?_
  refine hw_xr hI hxo (hw_xV hx hb hml hown hts hk hI (m_X5_machineAt l hst Z M (ad 0 0) (ad 0 1) (ad 0 2) (ad 0 3) (ad 0 4) (ad 0 8) (hs_np S) (hs_nw S) (hs_G S 0) (hs_G S 1) ka (ad 9) e0_0hP e0_3hP) cv_X5_134 e0_0hP rfl rfl ⟨rfl, rfl⟩ ⟨(Nat.le_of_ble_eq_true rfl), (Nat.le_of_ble_eq_true rfl)⟩ rfl hl.1 rfl (Nat.le_of_ble_eq_true rfl) ⟨(Nat.le_of_ble_eq_true rfl), (Nat.le_of_ble_eq_true rfl)⟩ dX5_ofMachine_2) (hq_xc (c := 1) (fun h => by unfold st_ofMachine; exact (hq_if h ⟨rfl, rfl⟩)) ⟨by decide, rfl⟩) (Nat.le_of_ble_eq_true rfl) (Nat.le_of_ble_eq_true rfl) (fun r2 M2 H locs hR hI => ?_)
  obtain ⟨⟨hk2, rfl⟩, rfl⟩ := hR
  have hx2 := hb_okx (by omega) hk2
  have hi2 : hb_ix ka < 2 := by have := hx2.1; omega
  have hig : hb_ix (hs_M S (hb_ix ka) 3) < 4 := hB.mg hi2 hm
  have e9_hb_ix_kahP : M (ad 9 (hb_ix ka)) = hw_ob 1 [.int (nI (hb_ix ka)), .int (hs_M S (hb_ix ka) 0), hp_ref (ad 8) (hs_M S (hb_ix ka) 1), .int (hs_M S (hb_ix ka) 2), .ref (ad 1 (hb_ix (hs_M S (hb_ix ka) 3))), .ref (ad 10 (hb_ix ka)), .int (nI (hs_N S (hb_ix ka)))] := by
    have q := hP.m 9 (hb_ix ka) hi2
    rw [show hp_e Z ad S T 9 (hb_ix ka) = hw_ob 1 [.int (nI (hb_ix ka)), .int (hs_M S (hb_ix ka) 0), hp_ref (ad 8) (hs_M S (hb_ix ka) 1), .int (hs_M S (hb_ix ka) 2), hp_ref (ad 1) (hs_M S (hb_ix ka) 3), .ref (ad 10 (hb_ix ka)), .int (nI (hs_N S (hb_ix ka)))] from rfl] at q
    rw [hp_refs hm] at q
    exact q
  have e1_hb_ix_hs_M_S_hb_ix_ka_3hP : M (ad 1 (hb_ix (hs_M S (hb_ix ka) 3))) = hw_ob 3 [.int (nI (hb_ix (hs_M S (hb_ix ka) 3))), .ref (ad 2 (hb_ix (hs_M S (hb_ix ka) 3))), .ref (ad 6 (hb_ix (hs_M S (hb_ix ka) 3))), .int (hs_P S (hb_ix (hs_M S (hb_ix ka) 3)) 0), .int (nI (hs_D S (hb_ix (hs_M S (hb_ix ka) 3)))), .double (hs_U S (hb_ix (hs_M S (hb_ix ka) 3))), .int (hs_P S (hb_ix (hs_M S (hb_ix ka) 3)) 3), hp_ref (ad 9) (hs_P S (hb_ix (hs_M S (hb_ix ka) 3)) 4), .int (hs_P S (hb_ix (hs_M S (hb_ix ka) 3)) 5), .int (hs_P S (hb_ix (hs_M S (hb_ix ka) 3)) 6), .int (hs_P S (hb_ix (hs_M S (hb_ix ka) 3)) 7), .int (hs_P S (hb_ix (hs_M S (hb_ix ka) 3)) 8), .int (hs_P S (hb_ix (hs_M S (hb_ix ka) 3)) 9)] := hP.m 1 (hb_ix (hs_M S (hb_ix ka) 3)) hig
  refine lv_astore_n (lv' := [(3, .ref (ad 9 (hb_ix ka))), (0, .ref (ad 0 0)), (1, .int ka), (2, .int (nI 3))]) hx hb dX5_ofMachine_5 rfl hl (by decide) rfl (fun ls hl => ?_)
  refine lv_iload_n hx hb dX5_ofMachine_6 rfl (lv_at hl 3 rfl) ?_
  refine lv_tableIn (tgt := 69) hx hb dX5_ofMachine_7 (by decide) (by decide) rfl (by decide) ?_
  refine lv_aload_n hx hb dX5_ofMachine_69 rfl (lv_at hl 0 rfl) ?_
  refine hw_get hx hb hts hown hk hI fd_X5_162 e9_hb_ix_kahP rfl dX5_ofMachine_70 ?_
  refine lv_ifnonnull (tgt := 80) hx hb dX5_ofMachine_73 (by decide) ?_
  refine lv_aload_n hx hb dX5_ofMachine_80 rfl (lv_at hl 0 rfl) ?_
  refine hw_get hx hb hts hown hk hI fd_X5_162 e9_hb_ix_kahP rfl dX5_ofMachine_81 ?_
  refine hw_get hx hb hts hown hk hI fd_X5_298 e1_hb_ix_hs_M_S_hb_ix_ka_3hP rfl dX5_ofMachine_84 ?_
  exact hret hI (⟨by unfold st_ofMachine; exact (if_neg (fun q => q hk2)).trans ((if_neg (fun q => q (by decide))).trans (hq_eq (hB.mgx hi2 hm).symm)), rfl⟩) (Nat.le_of_ble_eq_true rfl) (Nat.le_of_ble_eq_true rfl) dX5_ofMachine_87

theorem m_X5_ofMachine_3 (l : Launch) (hst : l.stackTraces = false) (Z : hw_Z) (M : hw_M) (ad : hp_ad) (S : hs_S) (T : hp_T) (b1 : Nat → Prop) (ka : Int32) (hP : hp_ok Z b1 M ad S T) (hB : hs_b S) : vx_Met l yX5_ofMachine (hw_m yX5_ofMachine cX5_ofMachine 4 (some .int)) ({ frames := 9, cells := 6, slots := 36, locals := 190 } : Room) (va_Pc [.ref (ad 0 0), .int ka, .int (nI 3)] (hw_P Z M)) (hw_Qi Z (hq_N M S (st_ofMachine S ka (nI 3)))) (hw_X Z (hq_X ["java/lang/IndexOutOfBoundsException", "java/lang/IllegalArgumentException"] M S (st_ofMachine S ka (nI 3)))) 6 36 (hw_A Z) := by
  by_cases hc : hs_M S (hb_ix ka) 3 = -1
  · exact m_X5_ofMachine_3n l hst Z M ad S T b1 ka hP hB hc
  · exact m_X5_ofMachine_3s l hst Z M ad S T b1 ka hP hB hc

set_option maxHeartbeats 4000000 in
set_option maxRecDepth 100000 in
theorem m_X5_ofMachine_4 (l : Launch) (hst : l.stackTraces = false) (Z : hw_Z) (M : hw_M) (ad : hp_ad) (S : hs_S) (T : hp_T) (b1 : Nat → Prop) (ka : Int32) (hP : hp_ok Z b1 M ad S T) (hB : hs_b S) : vx_Met l yX5_ofMachine (hw_m yX5_ofMachine cX5_ofMachine 4 (some .int)) ({ frames := 9, cells := 6, slots := 36, locals := 190 } : Room) (va_Pc [.ref (ad 0 0), .int ka, .int (nI 4)] (hw_P Z M)) (hw_Qi Z (hq_N M S (st_ofMachine S ka (nI 4)))) (hw_X Z (hq_X ["java/lang/IndexOutOfBoundsException", "java/lang/IllegalArgumentException"] M S (st_ofMachine S ka (nI 4)))) 6 36 (hw_A Z) := by
  refine hw_xofi hst (by decide +kernel) rfl (Nat.le_of_ble_eq_true rfl) ?_
  intro p e s m below meth c ls Q hx hb hml hown hts hk hnm hI hl hret hxo hthr hthrW
  have hnp := hB.np
  have hnw := hB.nw
  have e0_0hP : M (ad 0 0) = hw_ob 6 [.ref (ad 0 1), .ref (ad 0 2), .ref (ad 0 3), .int (nI (hs_np S)), .int (nI (hs_nw S)), .int (hs_G S 0), .int (hs_G S 1), .ref (ad 0 4), .ref (ad 0 8)] := hP.m 0 0 (by decide)
  have e0_3hP : M (ad 0 3) = hw_ar Z 5 2 (fun j => some (ad 9 j)) := hP.m 0 3 (by decide)
  refine lv_aload_n hx hb dX5_ofMachine_0 rfl (lv_at hl 0 rfl) ?_
  refine lv_iload_n hx hb dX5_ofMachine_1 rfl (lv_at hl 1 rfl) ?_
  refine hw_xr hI hxo (hw_xV hx hb hml hown hts hk hI (m_X5_machineAt l hst Z M (ad 0 0) (ad 0 1) (ad 0 2) (ad 0 3) (ad 0 4) (ad 0 8) (hs_np S) (hs_nw S) (hs_G S 0) (hs_G S 1) ka (ad 9) e0_0hP e0_3hP) cv_X5_134 e0_0hP rfl rfl ⟨rfl, rfl⟩ ⟨(Nat.le_of_ble_eq_true rfl), (Nat.le_of_ble_eq_true rfl)⟩ rfl hl.1 rfl (Nat.le_of_ble_eq_true rfl) ⟨(Nat.le_of_ble_eq_true rfl), (Nat.le_of_ble_eq_true rfl)⟩ dX5_ofMachine_2) (hq_xc (c := 1) (fun h => by unfold st_ofMachine; exact (hq_if h ⟨rfl, rfl⟩)) ⟨by decide, rfl⟩) (Nat.le_of_ble_eq_true rfl) (Nat.le_of_ble_eq_true rfl) (fun r2 M2 H locs hR hI => ?_)
  obtain ⟨⟨hk2, rfl⟩, rfl⟩ := hR
  have hx2 := hb_okx (by omega) hk2
  have hi2 : hb_ix ka < 2 := by have := hx2.1; omega
  have e9_hb_ix_kahP : M (ad 9 (hb_ix ka)) = hw_ob 1 [.int (nI (hb_ix ka)), .int (hs_M S (hb_ix ka) 0), hp_ref (ad 8) (hs_M S (hb_ix ka) 1), .int (hs_M S (hb_ix ka) 2), hp_ref (ad 1) (hs_M S (hb_ix ka) 3), .ref (ad 10 (hb_ix ka)), .int (nI (hs_N S (hb_ix ka)))] := hP.m 9 (hb_ix ka) hi2
  refine lv_astore_n (lv' := [(3, .ref (ad 9 (hb_ix ka))), (0, .ref (ad 0 0)), (1, .int ka), (2, .int (nI 4))]) hx hb dX5_ofMachine_5 rfl hl (by decide) rfl (fun ls hl => ?_)
  refine lv_iload_n hx hb dX5_ofMachine_6 rfl (lv_at hl 3 rfl) ?_
  refine lv_tableIn (tgt := 88) hx hb dX5_ofMachine_7 (by decide) (by decide) rfl (by decide) ?_
  refine lv_aload_n hx hb dX5_ofMachine_88 rfl (lv_at hl 0 rfl) ?_
  refine hw_get hx hb hts hown hk hI fd_X5_174 e9_hb_ix_kahP rfl dX5_ofMachine_89 ?_
  exact hret hI (⟨by unfold st_ofMachine; exact (if_neg (fun q => q hk2)).trans ((if_neg (fun q => q (by decide))).trans rfl), rfl⟩) (Nat.le_of_ble_eq_true rfl) (Nat.le_of_ble_eq_true rfl) dX5_ofMachine_92

set_option maxHeartbeats 4000000 in
set_option maxRecDepth 100000 in
theorem m_X5_ofMachine_k0 (l : Launch) (Z : hw_Z) (M : hw_M) (ad : hp_ad) (S : hs_S) (T : hp_T) (b1 : Nat → Prop) (i : Nat) (hP : hp_ok Z b1 M ad S T) (hB : hs_b S) (hi : i < 2) : Met l yX5_ofMachine (hw_m yX5_ofMachine cX5_ofMachine 4 (some .int)) ({ frames := 9, cells := 0, slots := 0, locals := 190 } : Room) (va_Pc [.ref (ad 0 0), .int (nI i), .int (nI 0)] (hw_P Z M)) (hw_Qi Z (fun r M' => hs_om S i 0 = r ∧ M = M')) 0 0 (hw_A Z) := by
  refine hw_ofi (by decide +kernel) rfl (Nat.le_of_ble_eq_true rfl) ?_
  intro p e s m below meth c ls Q hx hb hml hown hts hk hnm hI hl hret
  have hnp := hB.np
  have hnw := hB.nw
  have e0_0hP : M (ad 0 0) = hw_ob 6 [.ref (ad 0 1), .ref (ad 0 2), .ref (ad 0 3), .int (nI (hs_np S)), .int (nI (hs_nw S)), .int (hs_G S 0), .int (hs_G S 1), .ref (ad 0 4), .ref (ad 0 8)] := hP.m 0 0 (by decide)
  have e0_3hP : M (ad 0 3) = hw_ar Z 5 2 (fun j => some (ad 9 j)) := hP.m 0 3 (by decide)
  refine lv_aload_n hx hb dX5_ofMachine_0 rfl (lv_at hl 0 rfl) ?_
  refine lv_iload_n hx hb dX5_ofMachine_1 rfl (lv_at hl 1 rfl) ?_
  refine hw_cr hI (hw_rV hx hb hml hown hts hk hI (m_X5_machineAt_k l Z M (ad 0 0) (ad 0 1) (ad 0 2) (ad 0 3) (ad 0 4) (ad 0 8) (hs_np S) (hs_nw S) (hs_G S 0) (hs_G S 1) i (ad 9) e0_0hP e0_3hP hi) cv_X5_134 e0_0hP rfl rfl ⟨rfl, rfl⟩ ⟨(Nat.le_of_ble_eq_true rfl), (Nat.le_of_ble_eq_true rfl)⟩ rfl hl.1 rfl (Nat.le_of_ble_eq_true rfl) ⟨(Nat.le_of_ble_eq_true rfl), (Nat.le_of_ble_eq_true rfl)⟩ dX5_ofMachine_2) (fun r2 M2 H locs hR hI => ?_)
  obtain ⟨rfl, rfl⟩ := hR
  have hi4 : i < 2 := by omega
  have e9_ihP : M (ad 9 i) = hw_ob 1 [.int (nI i), .int (hs_M S i 0), hp_ref (ad 8) (hs_M S i 1), .int (hs_M S i 2), hp_ref (ad 1) (hs_M S i 3), .ref (ad 10 i), .int (nI (hs_N S i))] := hP.m 9 i hi4
  refine lv_astore_n (lv' := [(3, .ref (ad 9 i)), (0, .ref (ad 0 0)), (1, .int (nI i)), (2, .int (nI 0))]) hx hb dX5_ofMachine_5 rfl hl (by decide) rfl (fun ls hl => ?_)
  refine lv_iload_n hx hb dX5_ofMachine_6 rfl (lv_at hl 3 rfl) ?_
  refine lv_tableIn (tgt := 40) hx hb dX5_ofMachine_7 (by decide) (by decide) rfl (by decide) ?_
  refine lv_aload_n hx hb dX5_ofMachine_40 rfl (lv_at hl 0 rfl) ?_
  refine hw_get hx hb hts hown hk hI fd_X5_148 e9_ihP rfl dX5_ofMachine_41 ?_
  exact hret hI (⟨rfl, rfl⟩) (Nat.le_of_ble_eq_true rfl) (Nat.le_of_ble_eq_true rfl) dX5_ofMachine_44

set_option maxHeartbeats 4000000 in
set_option maxRecDepth 100000 in
theorem m_X5_ofMachine_k1n (l : Launch) (Z : hw_Z) (M : hw_M) (ad : hp_ad) (S : hs_S) (T : hp_T) (b1 : Nat → Prop) (i : Nat) (hP : hp_ok Z b1 M ad S T) (hB : hs_b S) (hi : i < 2) (hm : hs_M S i 1 = -1) : Met l yX5_ofMachine (hw_m yX5_ofMachine cX5_ofMachine 4 (some .int)) ({ frames := 9, cells := 0, slots := 0, locals := 190 } : Room) (va_Pc [.ref (ad 0 0), .int (nI i), .int (nI 1)] (hw_P Z M)) (hw_Qi Z (fun r M' => hs_om S i 1 = r ∧ M = M')) 0 0 (hw_A Z) := by
  refine hw_ofi (by decide +kernel) rfl (Nat.le_of_ble_eq_true rfl) ?_
  intro p e s m below meth c ls Q hx hb hml hown hts hk hnm hI hl hret
  have hnp := hB.np
  have hnw := hB.nw
  have e0_0hP : M (ad 0 0) = hw_ob 6 [.ref (ad 0 1), .ref (ad 0 2), .ref (ad 0 3), .int (nI (hs_np S)), .int (nI (hs_nw S)), .int (hs_G S 0), .int (hs_G S 1), .ref (ad 0 4), .ref (ad 0 8)] := hP.m 0 0 (by decide)
  have e0_3hP : M (ad 0 3) = hw_ar Z 5 2 (fun j => some (ad 9 j)) := hP.m 0 3 (by decide)
  refine lv_aload_n hx hb dX5_ofMachine_0 rfl (lv_at hl 0 rfl) ?_
  refine lv_iload_n hx hb dX5_ofMachine_1 rfl (lv_at hl 1 rfl) ?_
  refine hw_cr hI (hw_rV hx hb hml hown hts hk hI (m_X5_machineAt_k l Z M (ad 0 0) (ad 0 1) (ad 0 2) (ad 0 3) (ad 0 4) (ad 0 8) (hs_np S) (hs_nw S) (hs_G S 0) (hs_G S 1) i (ad 9) e0_0hP e0_3hP hi) cv_X5_134 e0_0hP rfl rfl ⟨rfl, rfl⟩ ⟨(Nat.le_of_ble_eq_true rfl), (Nat.le_of_ble_eq_true rfl)⟩ rfl hl.1 rfl (Nat.le_of_ble_eq_true rfl) ⟨(Nat.le_of_ble_eq_true rfl), (Nat.le_of_ble_eq_true rfl)⟩ dX5_ofMachine_2) (fun r2 M2 H locs hR hI => ?_)
  obtain ⟨rfl, rfl⟩ := hR
  have hi4 : i < 2 := by omega
  have e9_ihP : M (ad 9 i) = hw_ob 1 [.int (nI i), .int (hs_M S i 0), .null, .int (hs_M S i 2), hp_ref (ad 1) (hs_M S i 3), .ref (ad 10 i), .int (nI (hs_N S i))] := by
    have q := hP.m 9 i hi4
    rw [show hp_e Z ad S T 9 i = hw_ob 1 [.int (nI i), .int (hs_M S i 0), hp_ref (ad 8) (hs_M S i 1), .int (hs_M S i 2), hp_ref (ad 1) (hs_M S i 3), .ref (ad 10 i), .int (nI (hs_N S i))] from rfl] at q
    rw [hp_refn hm] at q
    exact q
  refine lv_astore_n (lv' := [(3, .ref (ad 9 i)), (0, .ref (ad 0 0)), (1, .int (nI i)), (2, .int (nI 1))]) hx hb dX5_ofMachine_5 rfl hl (by decide) rfl (fun ls hl => ?_)
  refine lv_iload_n hx hb dX5_ofMachine_6 rfl (lv_at hl 3 rfl) ?_
  refine lv_tableIn (tgt := 45) hx hb dX5_ofMachine_7 (by decide) (by decide) rfl (by decide) ?_
  refine lv_aload_n hx hb dX5_ofMachine_45 rfl (lv_at hl 0 rfl) ?_
  refine hw_get hx hb hts hown hk hI fd_X5_138 e9_ihP rfl dX5_ofMachine_46 ?_
  refine lv_ifnonnullN hx hb dX5_ofMachine_49 ?_
  refine lv_iconst (v := (-1)) hx hb dX5_ofMachine_52 (by decide) ?_
  refine lv_goto (tgt := 63) hx hb dX5_ofMachine_53 (by decide) ?_
  exact hret hI (⟨hm, rfl⟩) (Nat.le_of_ble_eq_true rfl) (Nat.le_of_ble_eq_true rfl) dX5_ofMachine_63

set_option maxHeartbeats 4000000 in
set_option maxRecDepth 100000 in
theorem m_X5_ofMachine_k1s (l : Launch) (Z : hw_Z) (M : hw_M) (ad : hp_ad) (S : hs_S) (T : hp_T) (b1 : Nat → Prop) (i : Nat) (hP : hp_ok Z b1 M ad S T) (hB : hs_b S) (hi : i < 2) (hm : ¬ hs_M S i 1 = -1) : Met l yX5_ofMachine (hw_m yX5_ofMachine cX5_ofMachine 4 (some .int)) ({ frames := 9, cells := 0, slots := 0, locals := 190 } : Room) (va_Pc [.ref (ad 0 0), .int (nI i), .int (nI 1)] (hw_P Z M)) (hw_Qi Z (fun r M' => hs_om S i 1 = r ∧ M = M')) 0 0 (hw_A Z) := by
  refine hw_ofi (by decide +kernel) rfl (Nat.le_of_ble_eq_true rfl) ?_
  intro p e s m below meth c ls Q hx hb hml hown hts hk hnm hI hl hret
  have hnp := hB.np
  have hnw := hB.nw
  have e0_0hP : M (ad 0 0) = hw_ob 6 [.ref (ad 0 1), .ref (ad 0 2), .ref (ad 0 3), .int (nI (hs_np S)), .int (nI (hs_nw S)), .int (hs_G S 0), .int (hs_G S 1), .ref (ad 0 4), .ref (ad 0 8)] := hP.m 0 0 (by decide)
  have e0_3hP : M (ad 0 3) = hw_ar Z 5 2 (fun j => some (ad 9 j)) := hP.m 0 3 (by decide)
  refine lv_aload_n hx hb dX5_ofMachine_0 rfl (lv_at hl 0 rfl) ?_
  refine lv_iload_n hx hb dX5_ofMachine_1 rfl (lv_at hl 1 rfl) ?_
  refine hw_cr hI (hw_rV hx hb hml hown hts hk hI (m_X5_machineAt_k l Z M (ad 0 0) (ad 0 1) (ad 0 2) (ad 0 3) (ad 0 4) (ad 0 8) (hs_np S) (hs_nw S) (hs_G S 0) (hs_G S 1) i (ad 9) e0_0hP e0_3hP hi) cv_X5_134 e0_0hP rfl rfl ⟨rfl, rfl⟩ ⟨(Nat.le_of_ble_eq_true rfl), (Nat.le_of_ble_eq_true rfl)⟩ rfl hl.1 rfl (Nat.le_of_ble_eq_true rfl) ⟨(Nat.le_of_ble_eq_true rfl), (Nat.le_of_ble_eq_true rfl)⟩ dX5_ofMachine_2) (fun r2 M2 H locs hR hI => ?_)
  obtain ⟨rfl, rfl⟩ := hR
  have hi4 : i < 2 := by omega
  have hig : hb_ix (hs_M S i 1) < 6 := hB.mp hi4 hm
  have e9_ihP : M (ad 9 i) = hw_ob 1 [.int (nI i), .int (hs_M S i 0), .ref (ad 8 (hb_ix (hs_M S i 1))), .int (hs_M S i 2), hp_ref (ad 1) (hs_M S i 3), .ref (ad 10 i), .int (nI (hs_N S i))] := by
    have q := hP.m 9 i hi4
    rw [show hp_e Z ad S T 9 i = hw_ob 1 [.int (nI i), .int (hs_M S i 0), hp_ref (ad 8) (hs_M S i 1), .int (hs_M S i 2), hp_ref (ad 1) (hs_M S i 3), .ref (ad 10 i), .int (nI (hs_N S i))] from rfl] at q
    rw [hp_refs hm] at q
    exact q
  have e8_hb_ix_hs_M_S_i_1hP : M (ad 8 (hb_ix (hs_M S i 1))) = hw_ob 4 [.int (nI (hb_ix (hs_M S i 1))), .int (hs_V S (hb_ix (hs_M S i 1)) 0), .int (hs_V S (hb_ix (hs_M S i 1)) 1), .int (hs_V S (hb_ix (hs_M S i 1)) 2), .int (hs_V S (hb_ix (hs_M S i 1)) 3), .int (hs_V S (hb_ix (hs_M S i 1)) 4)] := hP.m 8 (hb_ix (hs_M S i 1)) hig
  refine lv_astore_n (lv' := [(3, .ref (ad 9 i)), (0, .ref (ad 0 0)), (1, .int (nI i)), (2, .int (nI 1))]) hx hb dX5_ofMachine_5 rfl hl (by decide) rfl (fun ls hl => ?_)
  refine lv_iload_n hx hb dX5_ofMachine_6 rfl (lv_at hl 3 rfl) ?_
  refine lv_tableIn (tgt := 45) hx hb dX5_ofMachine_7 (by decide) (by decide) rfl (by decide) ?_
  refine lv_aload_n hx hb dX5_ofMachine_45 rfl (lv_at hl 0 rfl) ?_
  refine hw_get hx hb hts hown hk hI fd_X5_138 e9_ihP rfl dX5_ofMachine_46 ?_
  refine lv_ifnonnull (tgt := 56) hx hb dX5_ofMachine_49 (by decide) ?_
  refine lv_aload_n hx hb dX5_ofMachine_56 rfl (lv_at hl 0 rfl) ?_
  refine hw_get hx hb hts hown hk hI fd_X5_138 e9_ihP rfl dX5_ofMachine_57 ?_
  refine hw_get hx hb hts hown hk hI fd_X5_114 e8_hb_ix_hs_M_S_i_1hP rfl dX5_ofMachine_60 ?_
  exact hret hI (⟨(hB.mpx hi4 hm).symm, rfl⟩) (Nat.le_of_ble_eq_true rfl) (Nat.le_of_ble_eq_true rfl) dX5_ofMachine_63

theorem m_X5_ofMachine_k1 (l : Launch) (Z : hw_Z) (M : hw_M) (ad : hp_ad) (S : hs_S) (T : hp_T) (b1 : Nat → Prop) (i : Nat) (hP : hp_ok Z b1 M ad S T) (hB : hs_b S) (hi : i < 2) : Met l yX5_ofMachine (hw_m yX5_ofMachine cX5_ofMachine 4 (some .int)) ({ frames := 9, cells := 0, slots := 0, locals := 190 } : Room) (va_Pc [.ref (ad 0 0), .int (nI i), .int (nI 1)] (hw_P Z M)) (hw_Qi Z (fun r M' => hs_om S i 1 = r ∧ M = M')) 0 0 (hw_A Z) := by
  by_cases hc : hs_M S i 1 = -1
  · exact m_X5_ofMachine_k1n l Z M ad S T b1 i hP hB hi hc
  · exact m_X5_ofMachine_k1s l Z M ad S T b1 i hP hB hi hc

set_option maxHeartbeats 4000000 in
set_option maxRecDepth 100000 in
theorem m_X5_ofMachine_k2 (l : Launch) (Z : hw_Z) (M : hw_M) (ad : hp_ad) (S : hs_S) (T : hp_T) (b1 : Nat → Prop) (i : Nat) (hP : hp_ok Z b1 M ad S T) (hB : hs_b S) (hi : i < 2) : Met l yX5_ofMachine (hw_m yX5_ofMachine cX5_ofMachine 4 (some .int)) ({ frames := 9, cells := 0, slots := 0, locals := 190 } : Room) (va_Pc [.ref (ad 0 0), .int (nI i), .int (nI 2)] (hw_P Z M)) (hw_Qi Z (fun r M' => hs_om S i 2 = r ∧ M = M')) 0 0 (hw_A Z) := by
  refine hw_ofi (by decide +kernel) rfl (Nat.le_of_ble_eq_true rfl) ?_
  intro p e s m below meth c ls Q hx hb hml hown hts hk hnm hI hl hret
  have hnp := hB.np
  have hnw := hB.nw
  have e0_0hP : M (ad 0 0) = hw_ob 6 [.ref (ad 0 1), .ref (ad 0 2), .ref (ad 0 3), .int (nI (hs_np S)), .int (nI (hs_nw S)), .int (hs_G S 0), .int (hs_G S 1), .ref (ad 0 4), .ref (ad 0 8)] := hP.m 0 0 (by decide)
  have e0_3hP : M (ad 0 3) = hw_ar Z 5 2 (fun j => some (ad 9 j)) := hP.m 0 3 (by decide)
  refine lv_aload_n hx hb dX5_ofMachine_0 rfl (lv_at hl 0 rfl) ?_
  refine lv_iload_n hx hb dX5_ofMachine_1 rfl (lv_at hl 1 rfl) ?_
  refine hw_cr hI (hw_rV hx hb hml hown hts hk hI (m_X5_machineAt_k l Z M (ad 0 0) (ad 0 1) (ad 0 2) (ad 0 3) (ad 0 4) (ad 0 8) (hs_np S) (hs_nw S) (hs_G S 0) (hs_G S 1) i (ad 9) e0_0hP e0_3hP hi) cv_X5_134 e0_0hP rfl rfl ⟨rfl, rfl⟩ ⟨(Nat.le_of_ble_eq_true rfl), (Nat.le_of_ble_eq_true rfl)⟩ rfl hl.1 rfl (Nat.le_of_ble_eq_true rfl) ⟨(Nat.le_of_ble_eq_true rfl), (Nat.le_of_ble_eq_true rfl)⟩ dX5_ofMachine_2) (fun r2 M2 H locs hR hI => ?_)
  obtain ⟨rfl, rfl⟩ := hR
  have hi4 : i < 2 := by omega
  have e9_ihP : M (ad 9 i) = hw_ob 1 [.int (nI i), .int (hs_M S i 0), hp_ref (ad 8) (hs_M S i 1), .int (hs_M S i 2), hp_ref (ad 1) (hs_M S i 3), .ref (ad 10 i), .int (nI (hs_N S i))] := hP.m 9 i hi4
  refine lv_astore_n (lv' := [(3, .ref (ad 9 i)), (0, .ref (ad 0 0)), (1, .int (nI i)), (2, .int (nI 2))]) hx hb dX5_ofMachine_5 rfl hl (by decide) rfl (fun ls hl => ?_)
  refine lv_iload_n hx hb dX5_ofMachine_6 rfl (lv_at hl 3 rfl) ?_
  refine lv_tableIn (tgt := 64) hx hb dX5_ofMachine_7 (by decide) (by decide) rfl (by decide) ?_
  refine lv_aload_n hx hb dX5_ofMachine_64 rfl (lv_at hl 0 rfl) ?_
  refine hw_get hx hb hts hown hk hI fd_X5_157 e9_ihP rfl dX5_ofMachine_65 ?_
  exact hret hI (⟨rfl, rfl⟩) (Nat.le_of_ble_eq_true rfl) (Nat.le_of_ble_eq_true rfl) dX5_ofMachine_68

set_option maxHeartbeats 4000000 in
set_option maxRecDepth 100000 in
theorem m_X5_ofMachine_k3n (l : Launch) (Z : hw_Z) (M : hw_M) (ad : hp_ad) (S : hs_S) (T : hp_T) (b1 : Nat → Prop) (i : Nat) (hP : hp_ok Z b1 M ad S T) (hB : hs_b S) (hi : i < 2) (hm : hs_M S i 3 = -1) : Met l yX5_ofMachine (hw_m yX5_ofMachine cX5_ofMachine 4 (some .int)) ({ frames := 9, cells := 0, slots := 0, locals := 190 } : Room) (va_Pc [.ref (ad 0 0), .int (nI i), .int (nI 3)] (hw_P Z M)) (hw_Qi Z (fun r M' => hs_om S i 3 = r ∧ M = M')) 0 0 (hw_A Z) := by
  refine hw_ofi (by decide +kernel) rfl (Nat.le_of_ble_eq_true rfl) ?_
  intro p e s m below meth c ls Q hx hb hml hown hts hk hnm hI hl hret
  have hnp := hB.np
  have hnw := hB.nw
  have e0_0hP : M (ad 0 0) = hw_ob 6 [.ref (ad 0 1), .ref (ad 0 2), .ref (ad 0 3), .int (nI (hs_np S)), .int (nI (hs_nw S)), .int (hs_G S 0), .int (hs_G S 1), .ref (ad 0 4), .ref (ad 0 8)] := hP.m 0 0 (by decide)
  have e0_3hP : M (ad 0 3) = hw_ar Z 5 2 (fun j => some (ad 9 j)) := hP.m 0 3 (by decide)
  refine lv_aload_n hx hb dX5_ofMachine_0 rfl (lv_at hl 0 rfl) ?_
  refine lv_iload_n hx hb dX5_ofMachine_1 rfl (lv_at hl 1 rfl) ?_
  refine hw_cr hI (hw_rV hx hb hml hown hts hk hI (m_X5_machineAt_k l Z M (ad 0 0) (ad 0 1) (ad 0 2) (ad 0 3) (ad 0 4) (ad 0 8) (hs_np S) (hs_nw S) (hs_G S 0) (hs_G S 1) i (ad 9) e0_0hP e0_3hP hi) cv_X5_134 e0_0hP rfl rfl ⟨rfl, rfl⟩ ⟨(Nat.le_of_ble_eq_true rfl), (Nat.le_of_ble_eq_true rfl)⟩ rfl hl.1 rfl (Nat.le_of_ble_eq_true rfl) ⟨(Nat.le_of_ble_eq_true rfl), (Nat.le_of_ble_eq_true rfl)⟩ dX5_ofMachine_2) (fun r2 M2 H locs hR hI => ?_)
  obtain ⟨rfl, rfl⟩ := hR
  have hi4 : i < 2 := by omega
  have e9_ihP : M (ad 9 i) = hw_ob 1 [.int (nI i), .int (hs_M S i 0), hp_ref (ad 8) (hs_M S i 1), .int (hs_M S i 2), .null, .ref (ad 10 i), .int (nI (hs_N S i))] := by
    have q := hP.m 9 i hi4
    rw [show hp_e Z ad S T 9 i = hw_ob 1 [.int (nI i), .int (hs_M S i 0), hp_ref (ad 8) (hs_M S i 1), .int (hs_M S i 2), hp_ref (ad 1) (hs_M S i 3), .ref (ad 10 i), .int (nI (hs_N S i))] from rfl] at q
    rw [hp_refn hm] at q
    exact q
  refine lv_astore_n (lv' := [(3, .ref (ad 9 i)), (0, .ref (ad 0 0)), (1, .int (nI i)), (2, .int (nI 3))]) hx hb dX5_ofMachine_5 rfl hl (by decide) rfl (fun ls hl => ?_)
  refine lv_iload_n hx hb dX5_ofMachine_6 rfl (lv_at hl 3 rfl) ?_
  refine lv_tableIn (tgt := 69) hx hb dX5_ofMachine_7 (by decide) (by decide) rfl (by decide) ?_
  refine lv_aload_n hx hb dX5_ofMachine_69 rfl (lv_at hl 0 rfl) ?_
  refine hw_get hx hb hts hown hk hI fd_X5_162 e9_ihP rfl dX5_ofMachine_70 ?_
  refine lv_ifnonnullN hx hb dX5_ofMachine_73 ?_
  refine lv_iconst (v := (-1)) hx hb dX5_ofMachine_76 (by decide) ?_
  refine lv_goto (tgt := 87) hx hb dX5_ofMachine_77 (by decide) ?_
  exact hret hI (⟨hm, rfl⟩) (Nat.le_of_ble_eq_true rfl) (Nat.le_of_ble_eq_true rfl) dX5_ofMachine_87

set_option maxHeartbeats 4000000 in
set_option maxRecDepth 100000 in
theorem m_X5_ofMachine_k3s (l : Launch) (Z : hw_Z) (M : hw_M) (ad : hp_ad) (S : hs_S) (T : hp_T) (b1 : Nat → Prop) (i : Nat) (hP : hp_ok Z b1 M ad S T) (hB : hs_b S) (hi : i < 2) (hm : ¬ hs_M S i 3 = -1) : Met l yX5_ofMachine (hw_m yX5_ofMachine cX5_ofMachine 4 (some .int)) ({ frames := 9, cells := 0, slots := 0, locals := 190 } : Room) (va_Pc [.ref (ad 0 0), .int (nI i), .int (nI 3)] (hw_P Z M)) (hw_Qi Z (fun r M' => hs_om S i 3 = r ∧ M = M')) 0 0 (hw_A Z) := by
  refine hw_ofi (by decide +kernel) rfl (Nat.le_of_ble_eq_true rfl) ?_
  intro p e s m below meth c ls Q hx hb hml hown hts hk hnm hI hl hret
  have hnp := hB.np
  have hnw := hB.nw
  have e0_0hP : M (ad 0 0) = hw_ob 6 [.ref (ad 0 1), .ref (ad 0 2), .ref (ad 0 3), .int (nI (hs_np S)), .int (nI (hs_nw S)), .int (hs_G S 0), .int (hs_G S 1), .ref (ad 0 4), .ref (ad 0 8)] := hP.m 0 0 (by decide)
  have e0_3hP : M (ad 0 3) = hw_ar Z 5 2 (fun j => some (ad 9 j)) := hP.m 0 3 (by decide)
  refine lv_aload_n hx hb dX5_ofMachine_0 rfl (lv_at hl 0 rfl) ?_
  refine lv_iload_n hx hb dX5_ofMachine_1 rfl (lv_at hl 1 rfl) ?_
  refine hw_cr hI (hw_rV hx hb hml hown hts hk hI (m_X5_machineAt_k l Z M (ad 0 0) (ad 0 1) (ad 0 2) (ad 0 3) (ad 0 4) (ad 0 8) (hs_np S) (hs_nw S) (hs_G S 0) (hs_G S 1) i (ad 9) e0_0hP e0_3hP hi) cv_X5_134 e0_0hP rfl rfl ⟨rfl, rfl⟩ ⟨(Nat.le_of_ble_eq_true rfl), (Nat.le_of_ble_eq_true rfl)⟩ rfl hl.1 rfl (Nat.le_of_ble_eq_true rfl) ⟨(Nat.le_of_ble_eq_true rfl), (Nat.le_of_ble_eq_true rfl)⟩ dX5_ofMachine_2) (fun r2 M2 H locs hR hI => ?_)
  obtain ⟨rfl, rfl⟩ := hR
  have hi4 : i < 2 := by omega
  have hig : hb_ix (hs_M S i 3) < 4 := hB.mg hi4 hm
  have e9_ihP : M (ad 9 i) = hw_ob 1 [.int (nI i), .int (hs_M S i 0), hp_ref (ad 8) (hs_M S i 1), .int (hs_M S i 2), .ref (ad 1 (hb_ix (hs_M S i 3))), .ref (ad 10 i), .int (nI (hs_N S i))] := by
    have q := hP.m 9 i hi4
    rw [show hp_e Z ad S T 9 i = hw_ob 1 [.int (nI i), .int (hs_M S i 0), hp_ref (ad 8) (hs_M S i 1), .int (hs_M S i 2), hp_ref (ad 1) (hs_M S i 3), .ref (ad 10 i), .int (nI (hs_N S i))] from rfl] at q
    rw [hp_refs hm] at q
    exact q
  have e1_hb_ix_hs_M_S_i_3hP : M (ad 1 (hb_ix (hs_M S i 3))) = hw_ob 3 [.int (nI (hb_ix (hs_M S i 3))), .ref (ad 2 (hb_ix (hs_M S i 3))), .ref (ad 6 (hb_ix (hs_M S i 3))), .int (hs_P S (hb_ix (hs_M S i 3)) 0), .int (nI (hs_D S (hb_ix (hs_M S i 3)))), .double (hs_U S (hb_ix (hs_M S i 3))), .int (hs_P S (hb_ix (hs_M S i 3)) 3), hp_ref (ad 9) (hs_P S (hb_ix (hs_M S i 3)) 4), .int (hs_P S (hb_ix (hs_M S i 3)) 5), .int (hs_P S (hb_ix (hs_M S i 3)) 6), .int (hs_P S (hb_ix (hs_M S i 3)) 7), .int (hs_P S (hb_ix (hs_M S i 3)) 8), .int (hs_P S (hb_ix (hs_M S i 3)) 9)] := hP.m 1 (hb_ix (hs_M S i 3)) hig
  refine lv_astore_n (lv' := [(3, .ref (ad 9 i)), (0, .ref (ad 0 0)), (1, .int (nI i)), (2, .int (nI 3))]) hx hb dX5_ofMachine_5 rfl hl (by decide) rfl (fun ls hl => ?_)
  refine lv_iload_n hx hb dX5_ofMachine_6 rfl (lv_at hl 3 rfl) ?_
  refine lv_tableIn (tgt := 69) hx hb dX5_ofMachine_7 (by decide) (by decide) rfl (by decide) ?_
  refine lv_aload_n hx hb dX5_ofMachine_69 rfl (lv_at hl 0 rfl) ?_
  refine hw_get hx hb hts hown hk hI fd_X5_162 e9_ihP rfl dX5_ofMachine_70 ?_
  refine lv_ifnonnull (tgt := 80) hx hb dX5_ofMachine_73 (by decide) ?_
  refine lv_aload_n hx hb dX5_ofMachine_80 rfl (lv_at hl 0 rfl) ?_
  refine hw_get hx hb hts hown hk hI fd_X5_162 e9_ihP rfl dX5_ofMachine_81 ?_
  refine hw_get hx hb hts hown hk hI fd_X5_298 e1_hb_ix_hs_M_S_i_3hP rfl dX5_ofMachine_84 ?_
  exact hret hI (⟨(hB.mgx hi4 hm).symm, rfl⟩) (Nat.le_of_ble_eq_true rfl) (Nat.le_of_ble_eq_true rfl) dX5_ofMachine_87

theorem m_X5_ofMachine_k3 (l : Launch) (Z : hw_Z) (M : hw_M) (ad : hp_ad) (S : hs_S) (T : hp_T) (b1 : Nat → Prop) (i : Nat) (hP : hp_ok Z b1 M ad S T) (hB : hs_b S) (hi : i < 2) : Met l yX5_ofMachine (hw_m yX5_ofMachine cX5_ofMachine 4 (some .int)) ({ frames := 9, cells := 0, slots := 0, locals := 190 } : Room) (va_Pc [.ref (ad 0 0), .int (nI i), .int (nI 3)] (hw_P Z M)) (hw_Qi Z (fun r M' => hs_om S i 3 = r ∧ M = M')) 0 0 (hw_A Z) := by
  by_cases hc : hs_M S i 3 = -1
  · exact m_X5_ofMachine_k3n l Z M ad S T b1 i hP hB hi hc
  · exact m_X5_ofMachine_k3s l Z M ad S T b1 i hP hB hi hc

set_option maxHeartbeats 4000000 in
set_option maxRecDepth 100000 in
theorem m_X5_ofMachine_k4 (l : Launch) (Z : hw_Z) (M : hw_M) (ad : hp_ad) (S : hs_S) (T : hp_T) (b1 : Nat → Prop) (i : Nat) (hP : hp_ok Z b1 M ad S T) (hB : hs_b S) (hi : i < 2) : Met l yX5_ofMachine (hw_m yX5_ofMachine cX5_ofMachine 4 (some .int)) ({ frames := 9, cells := 0, slots := 0, locals := 190 } : Room) (va_Pc [.ref (ad 0 0), .int (nI i), .int (nI 4)] (hw_P Z M)) (hw_Qi Z (fun r M' => hs_om S i 4 = r ∧ M = M')) 0 0 (hw_A Z) := by
  refine hw_ofi (by decide +kernel) rfl (Nat.le_of_ble_eq_true rfl) ?_
  intro p e s m below meth c ls Q hx hb hml hown hts hk hnm hI hl hret
  have hnp := hB.np
  have hnw := hB.nw
  have e0_0hP : M (ad 0 0) = hw_ob 6 [.ref (ad 0 1), .ref (ad 0 2), .ref (ad 0 3), .int (nI (hs_np S)), .int (nI (hs_nw S)), .int (hs_G S 0), .int (hs_G S 1), .ref (ad 0 4), .ref (ad 0 8)] := hP.m 0 0 (by decide)
  have e0_3hP : M (ad 0 3) = hw_ar Z 5 2 (fun j => some (ad 9 j)) := hP.m 0 3 (by decide)
  refine lv_aload_n hx hb dX5_ofMachine_0 rfl (lv_at hl 0 rfl) ?_
  refine lv_iload_n hx hb dX5_ofMachine_1 rfl (lv_at hl 1 rfl) ?_
  refine hw_cr hI (hw_rV hx hb hml hown hts hk hI (m_X5_machineAt_k l Z M (ad 0 0) (ad 0 1) (ad 0 2) (ad 0 3) (ad 0 4) (ad 0 8) (hs_np S) (hs_nw S) (hs_G S 0) (hs_G S 1) i (ad 9) e0_0hP e0_3hP hi) cv_X5_134 e0_0hP rfl rfl ⟨rfl, rfl⟩ ⟨(Nat.le_of_ble_eq_true rfl), (Nat.le_of_ble_eq_true rfl)⟩ rfl hl.1 rfl (Nat.le_of_ble_eq_true rfl) ⟨(Nat.le_of_ble_eq_true rfl), (Nat.le_of_ble_eq_true rfl)⟩ dX5_ofMachine_2) (fun r2 M2 H locs hR hI => ?_)
  obtain ⟨rfl, rfl⟩ := hR
  have hi4 : i < 2 := by omega
  have e9_ihP : M (ad 9 i) = hw_ob 1 [.int (nI i), .int (hs_M S i 0), hp_ref (ad 8) (hs_M S i 1), .int (hs_M S i 2), hp_ref (ad 1) (hs_M S i 3), .ref (ad 10 i), .int (nI (hs_N S i))] := hP.m 9 i hi4
  refine lv_astore_n (lv' := [(3, .ref (ad 9 i)), (0, .ref (ad 0 0)), (1, .int (nI i)), (2, .int (nI 4))]) hx hb dX5_ofMachine_5 rfl hl (by decide) rfl (fun ls hl => ?_)
  refine lv_iload_n hx hb dX5_ofMachine_6 rfl (lv_at hl 3 rfl) ?_
  refine lv_tableIn (tgt := 88) hx hb dX5_ofMachine_7 (by decide) (by decide) rfl (by decide) ?_
  refine lv_aload_n hx hb dX5_ofMachine_88 rfl (lv_at hl 0 rfl) ?_
  refine hw_get hx hb hts hown hk hI fd_X5_174 e9_ihP rfl dX5_ofMachine_89 ?_
  exact hret hI (⟨rfl, rfl⟩) (Nat.le_of_ble_eq_true rfl) (Nat.le_of_ble_eq_true rfl) dX5_ofMachine_92

set_option maxHeartbeats 4000000 in
set_option maxRecDepth 100000 in
theorem m_X5_ofMachine_o (l : Launch) (hst : l.stackTraces = false) (Z : hw_Z) (M : hw_M) (ad : hp_ad) (S : hs_S) (T : hp_T) (b1 : Nat → Prop) (ka : Int32) (kw : Int32) (hP : hp_ok Z b1 M ad S T) (hB : hs_b S) (hw : ¬ hb_ok kw 5) : vx_Met l yX5_ofMachine (hw_m yX5_ofMachine cX5_ofMachine 4 (some .int)) ({ frames := 9, cells := 6, slots := 36, locals := 190 } : Room) (va_Pc [.ref (ad 0 0), .int ka, .int kw] (hw_P Z M)) (hw_Qi Z (hq_N M S (st_ofMachine S ka kw))) (hw_X Z (hq_X ["java/lang/IndexOutOfBoundsException", "java/lang/IllegalArgumentException"] M S (st_ofMachine S ka kw))) 6 36 (hw_A Z) := by
  refine hw_xofi hst (by decide +kernel) rfl (Nat.le_of_ble_eq_true rfl) ?_
  intro p e s m below meth c ls Q hx hb hml hown hts hk hnm hI hl hret hxo hthr hthrW
  have hnp := hB.np
  have hnw := hB.nw
  have e0_0hP : M (ad 0 0) = hw_ob 6 [.ref (ad 0 1), .ref (ad 0 2), .ref (ad 0 3), .int (nI (hs_np S)), .int (nI (hs_nw S)), .int (hs_G S 0), .int (hs_G S 1), .ref (ad 0 4), .ref (ad 0 8)] := hP.m 0 0 (by decide)
  have e0_3hP : M (ad 0 3) = hw_ar Z 5 2 (fun j => some (ad 9 j)) := hP.m 0 3 (by decide)
  refine lv_aload_n hx hb dX5_ofMachine_0 rfl (lv_at hl 0 rfl) ?_
  refine lv_iload_n hx hb dX5_ofMachine_1 rfl (lv_at hl 1 rfl) ?_
  refine hw_xr hI hxo (hw_xV hx hb hml hown hts hk hI (m_X5_machineAt l hst Z M (ad 0 0) (ad 0 1) (ad 0 2) (ad 0 3) (ad 0 4) (ad 0 8) (hs_np S) (hs_nw S) (hs_G S 0) (hs_G S 1) ka (ad 9) e0_0hP e0_3hP) cv_X5_134 e0_0hP rfl rfl ⟨rfl, rfl⟩ ⟨(Nat.le_of_ble_eq_true rfl), (Nat.le_of_ble_eq_true rfl)⟩ rfl hl.1 rfl (Nat.le_of_ble_eq_true rfl) ⟨(Nat.le_of_ble_eq_true rfl), (Nat.le_of_ble_eq_true rfl)⟩ dX5_ofMachine_2) (hq_xc (c := 1) (fun h => by unfold st_ofMachine; exact (hq_if h ⟨rfl, rfl⟩)) ⟨by decide, rfl⟩) (Nat.le_of_ble_eq_true rfl) (Nat.le_of_ble_eq_true rfl) (fun r2 M2 H locs hR hI => ?_)
  obtain ⟨⟨hk2, rfl⟩, rfl⟩ := hR
  refine lv_astore_n (lv' := [(3, .ref (ad 9 (hb_ix ka))), (0, .ref (ad 0 0)), (1, .int ka), (2, .int kw)]) hx hb dX5_ofMachine_5 rfl hl (by decide) rfl (fun ls hl => ?_)
  refine lv_iload_n hx hb dX5_ofMachine_6 rfl (lv_at hl 3 rfl) ?_
  refine lv_tableOut (tgt := 93) hx hb dX5_ofMachine_7 (by have := hq_out (n := 5) (by decide) hw; omega) (by decide) ?_
  exact hthrW hI th_X5_96_296_100 hl.1 dX5_ofMachine_93 dX5_ofMachine_96 dX5_ofMachine_97 dX5_ofMachine_100 dX5_ofMachine_103 (Nat.le_of_ble_eq_true rfl) (Nat.le_of_ble_eq_true rfl) (Nat.le_of_ble_eq_true rfl) (Nat.le_of_ble_eq_true rfl) (hq_x (c := 2) (by unfold st_ofMachine; exact (hq_el (fun q => q hk2) (hq_if hw ⟨rfl, rfl⟩))) ⟨by decide, rfl⟩ rfl) (Nat.le_of_ble_eq_true rfl) (Nat.le_of_ble_eq_true rfl)

theorem m_X5_ofMachine (l : Launch) (hst : l.stackTraces = false) (Z : hw_Z) (M : hw_M) (ad : hp_ad) (S : hs_S) (T : hp_T) (b1 : Nat → Prop) (ka : Int32) (kw : Int32) (hP : hp_ok Z b1 M ad S T) (hB : hs_b S) : vx_Met l yX5_ofMachine (hw_m yX5_ofMachine cX5_ofMachine 4 (some .int)) ({ frames := 9, cells := 6, slots := 36, locals := 190 } : Room) (va_Pc [.ref (ad 0 0), .int ka, .int kw] (hw_P Z M)) (hw_Qi Z (hq_N M S (st_ofMachine S ka kw))) (hw_X Z (hq_X ["java/lang/IndexOutOfBoundsException", "java/lang/IllegalArgumentException"] M S (st_ofMachine S ka kw))) 6 36 (hw_A Z) := by
  by_cases hw : hb_ok kw 5
  · obtain ⟨j, hj, rfl⟩ := hb_okj (by decide) hw
    rcases (show j = 0 ∨ j = 1 ∨ j = 2 ∨ j = 3 ∨ j = 4 by omega) with rfl | rfl | rfl | rfl | rfl
    · exact m_X5_ofMachine_0 l hst Z M ad S T b1 ka hP hB
    · exact m_X5_ofMachine_1 l hst Z M ad S T b1 ka hP hB
    · exact m_X5_ofMachine_2 l hst Z M ad S T b1 ka hP hB
    · exact m_X5_ofMachine_3 l hst Z M ad S T b1 ka hP hB
    · exact m_X5_ofMachine_4 l hst Z M ad S T b1 ka hP hB
  · exact m_X5_ofMachine_o l hst Z M ad S T b1 ka kw hP hB hw

theorem m_X5_ofMachine_k (l : Launch) (Z : hw_Z) (M : hw_M) (ad : hp_ad) (S : hs_S) (T : hp_T) (b1 : Nat → Prop) (i : Nat) (w : Nat) (hP : hp_ok Z b1 M ad S T) (hB : hs_b S) (hi : i < 2) (hw : w < 5) : Met l yX5_ofMachine (hw_m yX5_ofMachine cX5_ofMachine 4 (some .int)) ({ frames := 9, cells := 0, slots := 0, locals := 190 } : Room) (va_Pc [.ref (ad 0 0), .int (nI i), .int (nI w)] (hw_P Z M)) (hw_Qi Z (fun r M' => hs_om S i w = r ∧ M = M')) 0 0 (hw_A Z) := by
  rcases (show w = 0 ∨ w = 1 ∨ w = 2 ∨ w = 3 ∨ w = 4 by omega) with rfl | rfl | rfl | rfl | rfl
  · exact m_X5_ofMachine_k0 l Z M ad S T b1 i hP hB hi
  · exact m_X5_ofMachine_k1 l Z M ad S T b1 i hP hB hi
  · exact m_X5_ofMachine_k2 l Z M ad S T b1 i hP hB hi
  · exact m_X5_ofMachine_k3 l Z M ad S T b1 i hP hB hi
  · exact m_X5_ofMachine_k4 l Z M ad S T b1 i hP hB hi

set_option maxHeartbeats 4000000 in
set_option maxRecDepth 100000 in
theorem m_X5_ofLayer_0 (l : Launch) (hst : l.stackTraces = false) (Z : hw_Z) (M : hw_M) (ad : hp_ad) (S : hs_S) (T : hp_T) (b1 : Nat → Prop) (ka : Int32) (kb : Int32) (hP : hp_ok Z b1 M ad S T) (hB : hs_b S) : vx_Met l yX5_ofLayer (hw_m yX5_ofLayer cX5_ofLayer 5 (some .long)) ({ frames := 9, cells := 6, slots := 36, locals := 190 } : Room) (va_Pc [.ref (ad 0 0), .int ka, .int kb, .int (nI 0)] (hw_P Z M)) (hw_Ql Z (hq_N M S (st_ofLayer S ka kb (nI 0)))) (hw_X Z (hq_X ["java/lang/IndexOutOfBoundsException", "java/lang/IllegalArgumentException"] M S (st_ofLayer S ka kb (nI 0)))) 6 36 (hw_A Z) := by
  refine hw_xofl hst (by decide +kernel) rfl (Nat.le_of_ble_eq_true rfl) ?_
  intro p e s m below meth c ls Q hx hb hml hown hts hk hnm hI hl hret hxo hthr hthrW
  have hnp := hB.np
  have hnw := hB.nw
  have e0_0hP : M (ad 0 0) = hw_ob 6 [.ref (ad 0 1), .ref (ad 0 2), .ref (ad 0 3), .int (nI (hs_np S)), .int (nI (hs_nw S)), .int (hs_G S 0), .int (hs_G S 1), .ref (ad 0 4), .ref (ad 0 8)] := hP.m 0 0 (by decide)
  have e0_1hP : M (ad 0 1) = hw_ar Z 3 4 (fun j => some (ad 1 j)) := hP.m 0 1 (by decide)
  refine lv_aload_n hx hb dX5_ofLayer_0 rfl (lv_at hl 0 rfl) ?_
  refine lv_iload_n hx hb dX5_ofLayer_1 rfl (lv_at hl 1 rfl) ?_
  refine hw_xr hI hxo (hw_xV hx hb hml hown hts hk hI (m_X5_pieceAt l hst Z M (ad 0 0) (ad 0 1) (ad 0 2) (ad 0 3) (ad 0 4) (ad 0 8) (hs_np S) (hs_nw S) (hs_G S 0) (hs_G S 1) ka (ad 1) e0_0hP e0_1hP hnp) cv_X5_57 e0_0hP rfl rfl ⟨rfl, rfl⟩ ⟨(Nat.le_of_ble_eq_true rfl), (Nat.le_of_ble_eq_true rfl)⟩ rfl hl.1 rfl (Nat.le_of_ble_eq_true rfl) ⟨(Nat.le_of_ble_eq_true rfl), (Nat.le_of_ble_eq_true rfl)⟩ dX5_ofLayer_2) (hq_xc (c := 1) (fun h => by unfold st_ofLayer; exact (hq_if (fun q => h q.1) ⟨rfl, rfl⟩)) ⟨by decide, rfl⟩) (Nat.le_of_ble_eq_true rfl) (Nat.le_of_ble_eq_true rfl) (fun r2 M2 H locs hR hI => ?_)
  obtain ⟨⟨hk2, rfl⟩, rfl⟩ := hR
  have hx2 := hb_okx (by omega) hk2
  have hi2 : hb_ix ka < 4 := by have := hx2.1; omega
  have e1_hb_ix_kahP : M (ad 1 (hb_ix ka)) = hw_ob 3 [.int (nI (hb_ix ka)), .ref (ad 2 (hb_ix ka)), .ref (ad 6 (hb_ix ka)), .int (hs_P S (hb_ix ka) 0), .int (nI (hs_D S (hb_ix ka))), .double (hs_U S (hb_ix ka)), .int (hs_P S (hb_ix ka) 3), hp_ref (ad 9) (hs_P S (hb_ix ka) 4), .int (hs_P S (hb_ix ka) 5), .int (hs_P S (hb_ix ka) 6), .int (hs_P S (hb_ix ka) 7), .int (hs_P S (hb_ix ka) 8), .int (hs_P S (hb_ix ka) 9)] := hP.m 1 (hb_ix ka) hi2
  have e2_hb_ix_kahP : M (ad 2 (hb_ix ka)) = hw_ob 5 [.ref (ad 3 (hb_ix ka)), .ref (ad 4 (hb_ix ka)), .ref (ad 5 (hb_ix ka))] := hP.m 2 (hb_ix ka) hi2
  have e3_hb_ix_kahP : M (ad 3 (hb_ix ka)) = hw_al Z 8 (hs_C S (hb_ix ka)) := hP.m 3 (hb_ix ka) hi2
  have e4_hb_ix_kahP : M (ad 4 (hb_ix ka)) = hw_al Z 8 (hb_hang (hs_C S (hb_ix ka))) := hP.m 4 (hb_ix ka) hi2
  have e5_hb_ix_kahP : M (ad 5 (hb_ix ka)) = hw_al Z 8 (hb_supp (hs_C S (hb_ix ka))) := hP.m 5 (hb_ix ka) hi2
  refine lv_astore (lv' := [(4, .ref (ad 1 (hb_ix ka))), (0, .ref (ad 0 0)), (1, .int ka), (2, .int kb), (3, .int (nI 0))]) hx hb dX5_ofLayer_5 hl (by decide) rfl (fun ls hl => ?_)
  refine lv_iload_n hx hb dX5_ofLayer_7 rfl (lv_at hl 3 rfl) ?_
  refine hw_xv hI hxo (hw_xS hx hb hml hown hts hk hI (m_X5_checkLayer l hst Z M kb) cs_X5_61 ⟨rfl, rfl⟩ ⟨(Nat.le_of_ble_eq_true rfl), (Nat.le_of_ble_eq_true rfl)⟩ rfl hl.1 rfl (Nat.le_of_ble_eq_true rfl) ⟨(Nat.le_of_ble_eq_true rfl), (Nat.le_of_ble_eq_true rfl)⟩ dX5_ofLayer_8) (hq_xc (c := 1) (fun h => by unfold st_ofLayer; exact (hq_if (fun q => h q.2) ⟨rfl, rfl⟩)) ⟨by decide, rfl⟩) (Nat.le_of_ble_eq_true rfl) (Nat.le_of_ble_eq_true rfl) (fun M8 H locs hR hI => ?_)
  obtain ⟨hk8, rfl⟩ := hR
  have hx8 := hb_okx (by omega) hk8
  refine lv_iload_n hx hb dX5_ofLayer_11 rfl (lv_at hl 4 rfl) ?_
  refine lv_tableIn (tgt := 40) hx hb dX5_ofLayer_12 (by decide) (by decide) rfl (by decide) ?_
  refine lv_aload hx hb dX5_ofLayer_40 (lv_at hl 0 rfl) ?_
  refine hw_get hx hb hts hown hk hI fd_X5_68 e1_hb_ix_kahP rfl dX5_ofLayer_42 ?_
  refine hw_get hx hb hts hown hk hI fd_X5_283 e2_hb_ix_kahP rfl dX5_ofLayer_45 ?_
  refine lv_iload_n hx hb dX5_ofLayer_48 rfl (lv_at hl 3 rfl) ?_
  refine W.eq (g2 := F0 m 49 ls [.int (nI (hb_ix kb)), .ref (ad 3 (hb_ix ka))]) (congrArg (fun z => F0 m 49 ls [.int z, .ref (ad 3 (hb_ix ka))]) hx8.2) ?_
  refine hw_lald hx hb hk hI e3_hb_ix_kahP (j := hb_ix kb) rfl hx8.1 (by decide) dX5_ofLayer_49 ?_
  exact hret hI (⟨by unfold st_ofLayer; exact (if_neg (fun q => q ⟨hk2, hk8⟩)).trans ((if_neg (fun q => q (by decide))).trans rfl), rfl⟩) (Nat.le_of_ble_eq_true rfl) (Nat.le_of_ble_eq_true rfl) dX5_ofLayer_50

set_option maxHeartbeats 4000000 in
set_option maxRecDepth 100000 in
theorem m_X5_ofLayer_1 (l : Launch) (hst : l.stackTraces = false) (Z : hw_Z) (M : hw_M) (ad : hp_ad) (S : hs_S) (T : hp_T) (b1 : Nat → Prop) (ka : Int32) (kb : Int32) (hP : hp_ok Z b1 M ad S T) (hB : hs_b S) : vx_Met l yX5_ofLayer (hw_m yX5_ofLayer cX5_ofLayer 5 (some .long)) ({ frames := 9, cells := 6, slots := 36, locals := 190 } : Room) (va_Pc [.ref (ad 0 0), .int ka, .int kb, .int (nI 1)] (hw_P Z M)) (hw_Ql Z (hq_N M S (st_ofLayer S ka kb (nI 1)))) (hw_X Z (hq_X ["java/lang/IndexOutOfBoundsException", "java/lang/IllegalArgumentException"] M S (st_ofLayer S ka kb (nI 1)))) 6 36 (hw_A Z) := by
  refine hw_xofl hst (by decide +kernel) rfl (Nat.le_of_ble_eq_true rfl) ?_
  intro p e s m below meth c ls Q hx hb hml hown hts hk hnm hI hl hret hxo hthr hthrW
  have hnp := hB.np
  have hnw := hB.nw
  have e0_0hP : M (ad 0 0) = hw_ob 6 [.ref (ad 0 1), .ref (ad 0 2), .ref (ad 0 3), .int (nI (hs_np S)), .int (nI (hs_nw S)), .int (hs_G S 0), .int (hs_G S 1), .ref (ad 0 4), .ref (ad 0 8)] := hP.m 0 0 (by decide)
  have e0_1hP : M (ad 0 1) = hw_ar Z 3 4 (fun j => some (ad 1 j)) := hP.m 0 1 (by decide)
  refine lv_aload_n hx hb dX5_ofLayer_0 rfl (lv_at hl 0 rfl) ?_
  refine lv_iload_n hx hb dX5_ofLayer_1 rfl (lv_at hl 1 rfl) ?_
  refine hw_xr hI hxo (hw_xV hx hb hml hown hts hk hI (m_X5_pieceAt l hst Z M (ad 0 0) (ad 0 1) (ad 0 2) (ad 0 3) (ad 0 4) (ad 0 8) (hs_np S) (hs_nw S) (hs_G S 0) (hs_G S 1) ka (ad 1) e0_0hP e0_1hP hnp) cv_X5_57 e0_0hP rfl rfl ⟨rfl, rfl⟩ ⟨(Nat.le_of_ble_eq_true rfl), (Nat.le_of_ble_eq_true rfl)⟩ rfl hl.1 rfl (Nat.le_of_ble_eq_true rfl) ⟨(Nat.le_of_ble_eq_true rfl), (Nat.le_of_ble_eq_true rfl)⟩ dX5_ofLayer_2) (hq_xc (c := 1) (fun h => by unfold st_ofLayer; exact (hq_if (fun q => h q.1) ⟨rfl, rfl⟩)) ⟨by decide, rfl⟩) (Nat.le_of_ble_eq_true rfl) (Nat.le_of_ble_eq_true rfl) (fun r2 M2 H locs hR hI => ?_)
  obtain ⟨⟨hk2, rfl⟩, rfl⟩ := hR
  have hx2 := hb_okx (by omega) hk2
  have hi2 : hb_ix ka < 4 := by have := hx2.1; omega
  have e1_hb_ix_kahP : M (ad 1 (hb_ix ka)) = hw_ob 3 [.int (nI (hb_ix ka)), .ref (ad 2 (hb_ix ka)), .ref (ad 6 (hb_ix ka)), .int (hs_P S (hb_ix ka) 0), .int (nI (hs_D S (hb_ix ka))), .double (hs_U S (hb_ix ka)), .int (hs_P S (hb_ix ka) 3), hp_ref (ad 9) (hs_P S (hb_ix ka) 4), .int (hs_P S (hb_ix ka) 5), .int (hs_P S (hb_ix ka) 6), .int (hs_P S (hb_ix ka) 7), .int (hs_P S (hb_ix ka) 8), .int (hs_P S (hb_ix ka) 9)] := hP.m 1 (hb_ix ka) hi2
  have e2_hb_ix_kahP : M (ad 2 (hb_ix ka)) = hw_ob 5 [.ref (ad 3 (hb_ix ka)), .ref (ad 4 (hb_ix ka)), .ref (ad 5 (hb_ix ka))] := hP.m 2 (hb_ix ka) hi2
  have e3_hb_ix_kahP : M (ad 3 (hb_ix ka)) = hw_al Z 8 (hs_C S (hb_ix ka)) := hP.m 3 (hb_ix ka) hi2
  have e4_hb_ix_kahP : M (ad 4 (hb_ix ka)) = hw_al Z 8 (hb_hang (hs_C S (hb_ix ka))) := hP.m 4 (hb_ix ka) hi2
  have e5_hb_ix_kahP : M (ad 5 (hb_ix ka)) = hw_al Z 8 (hb_supp (hs_C S (hb_ix ka))) := hP.m 5 (hb_ix ka) hi2
  refine lv_astore (lv' := [(4, .ref (ad 1 (hb_ix ka))), (0, .ref (ad 0 0)), (1, .int ka), (2, .int kb), (3, .int (nI 1))]) hx hb dX5_ofLayer_5 hl (by decide) rfl (fun ls hl => ?_)
  refine lv_iload_n hx hb dX5_ofLayer_7 rfl (lv_at hl 3 rfl) ?_
  refine hw_xv hI hxo (hw_xS hx hb hml hown hts hk hI (m_X5_checkLayer l hst Z M kb) cs_X5_61 ⟨rfl, rfl⟩ ⟨(Nat.le_of_ble_eq_true rfl), (Nat.le_of_ble_eq_true rfl)⟩ rfl hl.1 rfl (Nat.le_of_ble_eq_true rfl) ⟨(Nat.le_of_ble_eq_true rfl), (Nat.le_of_ble_eq_true rfl)⟩ dX5_ofLayer_8) (hq_xc (c := 1) (fun h => by unfold st_ofLayer; exact (hq_if (fun q => h q.2) ⟨rfl, rfl⟩)) ⟨by decide, rfl⟩) (Nat.le_of_ble_eq_true rfl) (Nat.le_of_ble_eq_true rfl) (fun M8 H locs hR hI => ?_)
  obtain ⟨hk8, rfl⟩ := hR
  have hx8 := hb_okx (by omega) hk8
  refine lv_iload_n hx hb dX5_ofLayer_11 rfl (lv_at hl 4 rfl) ?_
  refine lv_tableIn (tgt := 51) hx hb dX5_ofLayer_12 (by decide) (by decide) rfl (by decide) ?_
  refine lv_aload hx hb dX5_ofLayer_51 (lv_at hl 0 rfl) ?_
  refine hw_get hx hb hts hown hk hI fd_X5_68 e1_hb_ix_kahP rfl dX5_ofLayer_53 ?_
  refine hw_get hx hb hts hown hk hI fd_X5_287 e2_hb_ix_kahP rfl dX5_ofLayer_56 ?_
  refine lv_iload_n hx hb dX5_ofLayer_59 rfl (lv_at hl 3 rfl) ?_
  refine W.eq (g2 := F0 m 60 ls [.int (nI (hb_ix kb)), .ref (ad 4 (hb_ix ka))]) (congrArg (fun z => F0 m 60 ls [.int z, .ref (ad 4 (hb_ix ka))]) hx8.2) ?_
  refine hw_lald hx hb hk hI e4_hb_ix_kahP (j := hb_ix kb) rfl hx8.1 (by decide) dX5_ofLayer_60 ?_
  exact hret hI (⟨by unfold st_ofLayer; exact (if_neg (fun q => q ⟨hk2, hk8⟩)).trans ((if_neg (fun q => q (by decide))).trans rfl), rfl⟩) (Nat.le_of_ble_eq_true rfl) (Nat.le_of_ble_eq_true rfl) dX5_ofLayer_61

set_option maxHeartbeats 4000000 in
set_option maxRecDepth 100000 in
theorem m_X5_ofLayer_2 (l : Launch) (hst : l.stackTraces = false) (Z : hw_Z) (M : hw_M) (ad : hp_ad) (S : hs_S) (T : hp_T) (b1 : Nat → Prop) (ka : Int32) (kb : Int32) (hP : hp_ok Z b1 M ad S T) (hB : hs_b S) : vx_Met l yX5_ofLayer (hw_m yX5_ofLayer cX5_ofLayer 5 (some .long)) ({ frames := 9, cells := 6, slots := 36, locals := 190 } : Room) (va_Pc [.ref (ad 0 0), .int ka, .int kb, .int (nI 2)] (hw_P Z M)) (hw_Ql Z (hq_N M S (st_ofLayer S ka kb (nI 2)))) (hw_X Z (hq_X ["java/lang/IndexOutOfBoundsException", "java/lang/IllegalArgumentException"] M S (st_ofLayer S ka kb (nI 2)))) 6 36 (hw_A Z) := by
  refine hw_xofl hst (by decide +kernel) rfl (Nat.le_of_ble_eq_true rfl) ?_
  intro p e s m below meth c ls Q hx hb hml hown hts hk hnm hI hl hret hxo hthr hthrW
  have hnp := hB.np
  have hnw := hB.nw
  have e0_0hP : M (ad 0 0) = hw_ob 6 [.ref (ad 0 1), .ref (ad 0 2), .ref (ad 0 3), .int (nI (hs_np S)), .int (nI (hs_nw S)), .int (hs_G S 0), .int (hs_G S 1), .ref (ad 0 4), .ref (ad 0 8)] := hP.m 0 0 (by decide)
  have e0_1hP : M (ad 0 1) = hw_ar Z 3 4 (fun j => some (ad 1 j)) := hP.m 0 1 (by decide)
  refine lv_aload_n hx hb dX5_ofLayer_0 rfl (lv_at hl 0 rfl) ?_
  refine lv_iload_n hx hb dX5_ofLayer_1 rfl (lv_at hl 1 rfl) ?_
  refine hw_xr hI hxo (hw_xV hx hb hml hown hts hk hI (m_X5_pieceAt l hst Z M (ad 0 0) (ad 0 1) (ad 0 2) (ad 0 3) (ad 0 4) (ad 0 8) (hs_np S) (hs_nw S) (hs_G S 0) (hs_G S 1) ka (ad 1) e0_0hP e0_1hP hnp) cv_X5_57 e0_0hP rfl rfl ⟨rfl, rfl⟩ ⟨(Nat.le_of_ble_eq_true rfl), (Nat.le_of_ble_eq_true rfl)⟩ rfl hl.1 rfl (Nat.le_of_ble_eq_true rfl) ⟨(Nat.le_of_ble_eq_true rfl), (Nat.le_of_ble_eq_true rfl)⟩ dX5_ofLayer_2) (hq_xc (c := 1) (fun h => by unfold st_ofLayer; exact (hq_if (fun q => h q.1) ⟨rfl, rfl⟩)) ⟨by decide, rfl⟩) (Nat.le_of_ble_eq_true rfl) (Nat.le_of_ble_eq_true rfl) (fun r2 M2 H locs hR hI => ?_)
  obtain ⟨⟨hk2, rfl⟩, rfl⟩ := hR
  have hx2 := hb_okx (by omega) hk2
  have hi2 : hb_ix ka < 4 := by have := hx2.1; omega
  have e1_hb_ix_kahP : M (ad 1 (hb_ix ka)) = hw_ob 3 [.int (nI (hb_ix ka)), .ref (ad 2 (hb_ix ka)), .ref (ad 6 (hb_ix ka)), .int (hs_P S (hb_ix ka) 0), .int (nI (hs_D S (hb_ix ka))), .double (hs_U S (hb_ix ka)), .int (hs_P S (hb_ix ka) 3), hp_ref (ad 9) (hs_P S (hb_ix ka) 4), .int (hs_P S (hb_ix ka) 5), .int (hs_P S (hb_ix ka) 6), .int (hs_P S (hb_ix ka) 7), .int (hs_P S (hb_ix ka) 8), .int (hs_P S (hb_ix ka) 9)] := hP.m 1 (hb_ix ka) hi2
  have e2_hb_ix_kahP : M (ad 2 (hb_ix ka)) = hw_ob 5 [.ref (ad 3 (hb_ix ka)), .ref (ad 4 (hb_ix ka)), .ref (ad 5 (hb_ix ka))] := hP.m 2 (hb_ix ka) hi2
  have e3_hb_ix_kahP : M (ad 3 (hb_ix ka)) = hw_al Z 8 (hs_C S (hb_ix ka)) := hP.m 3 (hb_ix ka) hi2
  have e4_hb_ix_kahP : M (ad 4 (hb_ix ka)) = hw_al Z 8 (hb_hang (hs_C S (hb_ix ka))) := hP.m 4 (hb_ix ka) hi2
  have e5_hb_ix_kahP : M (ad 5 (hb_ix ka)) = hw_al Z 8 (hb_supp (hs_C S (hb_ix ka))) := hP.m 5 (hb_ix ka) hi2
  refine lv_astore (lv' := [(4, .ref (ad 1 (hb_ix ka))), (0, .ref (ad 0 0)), (1, .int ka), (2, .int kb), (3, .int (nI 2))]) hx hb dX5_ofLayer_5 hl (by decide) rfl (fun ls hl => ?_)
  refine lv_iload_n hx hb dX5_ofLayer_7 rfl (lv_at hl 3 rfl) ?_
  refine hw_xv hI hxo (hw_xS hx hb hml hown hts hk hI (m_X5_checkLayer l hst Z M kb) cs_X5_61 ⟨rfl, rfl⟩ ⟨(Nat.le_of_ble_eq_true rfl), (Nat.le_of_ble_eq_true rfl)⟩ rfl hl.1 rfl (Nat.le_of_ble_eq_true rfl) ⟨(Nat.le_of_ble_eq_true rfl), (Nat.le_of_ble_eq_true rfl)⟩ dX5_ofLayer_8) (hq_xc (c := 1) (fun h => by unfold st_ofLayer; exact (hq_if (fun q => h q.2) ⟨rfl, rfl⟩)) ⟨by decide, rfl⟩) (Nat.le_of_ble_eq_true rfl) (Nat.le_of_ble_eq_true rfl) (fun M8 H locs hR hI => ?_)
  obtain ⟨hk8, rfl⟩ := hR
  have hx8 := hb_okx (by omega) hk8
  refine lv_iload_n hx hb dX5_ofLayer_11 rfl (lv_at hl 4 rfl) ?_
  refine lv_tableIn (tgt := 62) hx hb dX5_ofLayer_12 (by decide) (by decide) rfl (by decide) ?_
  refine lv_aload hx hb dX5_ofLayer_62 (lv_at hl 0 rfl) ?_
  refine hw_get hx hb hts hown hk hI fd_X5_68 e1_hb_ix_kahP rfl dX5_ofLayer_64 ?_
  refine hw_get hx hb hts hown hk hI fd_X5_290 e2_hb_ix_kahP rfl dX5_ofLayer_67 ?_
  refine lv_iload_n hx hb dX5_ofLayer_70 rfl (lv_at hl 3 rfl) ?_
  refine W.eq (g2 := F0 m 71 ls [.int (nI (hb_ix kb)), .ref (ad 5 (hb_ix ka))]) (congrArg (fun z => F0 m 71 ls [.int z, .ref (ad 5 (hb_ix ka))]) hx8.2) ?_
  refine hw_lald hx hb hk hI e5_hb_ix_kahP (j := hb_ix kb) rfl hx8.1 (by decide) dX5_ofLayer_71 ?_
  exact hret hI (⟨by unfold st_ofLayer; exact (if_neg (fun q => q ⟨hk2, hk8⟩)).trans ((if_neg (fun q => q (by decide))).trans rfl), rfl⟩) (Nat.le_of_ble_eq_true rfl) (Nat.le_of_ble_eq_true rfl) dX5_ofLayer_72

set_option maxHeartbeats 4000000 in
set_option maxRecDepth 100000 in
theorem m_X5_ofLayer_k0 (l : Launch) (Z : hw_Z) (M : hw_M) (ad : hp_ad) (S : hs_S) (T : hp_T) (b1 : Nat → Prop) (i : Nat) (j : Nat) (hP : hp_ok Z b1 M ad S T) (hB : hs_b S) (hi : i < hs_np S) (hj : j < 8) : Met l yX5_ofLayer (hw_m yX5_ofLayer cX5_ofLayer 5 (some .long)) ({ frames := 9, cells := 0, slots := 0, locals := 190 } : Room) (va_Pc [.ref (ad 0 0), .int (nI i), .int (nI j), .int (nI 0)] (hw_P Z M)) (hw_Ql Z (fun r M' => hs_ol S i j 0 = r ∧ M = M')) 0 0 (hw_A Z) := by
  refine hw_ofl (by decide +kernel) rfl (Nat.le_of_ble_eq_true rfl) ?_
  intro p e s m below meth c ls Q hx hb hml hown hts hk hnm hI hl hret
  have hnp := hB.np
  have hnw := hB.nw
  have e0_0hP : M (ad 0 0) = hw_ob 6 [.ref (ad 0 1), .ref (ad 0 2), .ref (ad 0 3), .int (nI (hs_np S)), .int (nI (hs_nw S)), .int (hs_G S 0), .int (hs_G S 1), .ref (ad 0 4), .ref (ad 0 8)] := hP.m 0 0 (by decide)
  have e0_1hP : M (ad 0 1) = hw_ar Z 3 4 (fun j => some (ad 1 j)) := hP.m 0 1 (by decide)
  refine lv_aload_n hx hb dX5_ofLayer_0 rfl (lv_at hl 0 rfl) ?_
  refine lv_iload_n hx hb dX5_ofLayer_1 rfl (lv_at hl 1 rfl) ?_
  refine hw_cr hI (hw_rV hx hb hml hown hts hk hI (m_X5_pieceAt_k l Z M (ad 0 0) (ad 0 1) (ad 0 2) (ad 0 3) (ad 0 4) (ad 0 8) (hs_np S) (hs_nw S) (hs_G S 0) (hs_G S 1) i (ad 1) e0_0hP e0_1hP hnp hi) cv_X5_57 e0_0hP rfl rfl ⟨rfl, rfl⟩ ⟨(Nat.le_of_ble_eq_true rfl), (Nat.le_of_ble_eq_true rfl)⟩ rfl hl.1 rfl (Nat.le_of_ble_eq_true rfl) ⟨(Nat.le_of_ble_eq_true rfl), (Nat.le_of_ble_eq_true rfl)⟩ dX5_ofLayer_2) (fun r2 M2 H locs hR hI => ?_)
  obtain ⟨rfl, rfl⟩ := hR
  have hi4 : i < 4 := by omega
  have e1_ihP : M (ad 1 i) = hw_ob 3 [.int (nI i), .ref (ad 2 i), .ref (ad 6 i), .int (hs_P S i 0), .int (nI (hs_D S i)), .double (hs_U S i), .int (hs_P S i 3), hp_ref (ad 9) (hs_P S i 4), .int (hs_P S i 5), .int (hs_P S i 6), .int (hs_P S i 7), .int (hs_P S i 8), .int (hs_P S i 9)] := hP.m 1 i hi4
  have e2_ihP : M (ad 2 i) = hw_ob 5 [.ref (ad 3 i), .ref (ad 4 i), .ref (ad 5 i)] := hP.m 2 i hi4
  have e3_ihP : M (ad 3 i) = hw_al Z 8 (hs_C S i) := hP.m 3 i hi4
  have e4_ihP : M (ad 4 i) = hw_al Z 8 (hb_hang (hs_C S i)) := hP.m 4 i hi4
  have e5_ihP : M (ad 5 i) = hw_al Z 8 (hb_supp (hs_C S i)) := hP.m 5 i hi4
  refine lv_astore (lv' := [(4, .ref (ad 1 i)), (0, .ref (ad 0 0)), (1, .int (nI i)), (2, .int (nI j)), (3, .int (nI 0))]) hx hb dX5_ofLayer_5 hl (by decide) rfl (fun ls hl => ?_)
  refine lv_iload_n hx hb dX5_ofLayer_7 rfl (lv_at hl 3 rfl) ?_
  refine hw_cv hI (hw_rS hx hb hml hown hts hk hI (m_X5_checkLayer_k l Z M j hj) cs_X5_61 ⟨rfl, rfl⟩ ⟨(Nat.le_of_ble_eq_true rfl), (Nat.le_of_ble_eq_true rfl)⟩ rfl hl.1 rfl (Nat.le_of_ble_eq_true rfl) ⟨(Nat.le_of_ble_eq_true rfl), (Nat.le_of_ble_eq_true rfl)⟩ dX5_ofLayer_8) (fun M8 H locs hR hI => ?_)
  subst hR
  refine lv_iload_n hx hb dX5_ofLayer_11 rfl (lv_at hl 4 rfl) ?_
  refine lv_tableIn (tgt := 40) hx hb dX5_ofLayer_12 (by decide) (by decide) rfl (by decide) ?_
  refine lv_aload hx hb dX5_ofLayer_40 (lv_at hl 0 rfl) ?_
  refine hw_get hx hb hts hown hk hI fd_X5_68 e1_ihP rfl dX5_ofLayer_42 ?_
  refine hw_get hx hb hts hown hk hI fd_X5_283 e2_ihP rfl dX5_ofLayer_45 ?_
  refine lv_iload_n hx hb dX5_ofLayer_48 rfl (lv_at hl 3 rfl) ?_
  refine hw_lald hx hb hk hI e3_ihP (j := j) rfl (by omega) (by decide) dX5_ofLayer_49 ?_
  exact hret hI (⟨rfl, rfl⟩) (Nat.le_of_ble_eq_true rfl) (Nat.le_of_ble_eq_true rfl) dX5_ofLayer_50

set_option maxHeartbeats 4000000 in
set_option maxRecDepth 100000 in
theorem m_X5_ofLayer_k1 (l : Launch) (Z : hw_Z) (M : hw_M) (ad : hp_ad) (S : hs_S) (T : hp_T) (b1 : Nat → Prop) (i : Nat) (j : Nat) (hP : hp_ok Z b1 M ad S T) (hB : hs_b S) (hi : i < hs_np S) (hj : j < 8) : Met l yX5_ofLayer (hw_m yX5_ofLayer cX5_ofLayer 5 (some .long)) ({ frames := 9, cells := 0, slots := 0, locals := 190 } : Room) (va_Pc [.ref (ad 0 0), .int (nI i), .int (nI j), .int (nI 1)] (hw_P Z M)) (hw_Ql Z (fun r M' => hs_ol S i j 1 = r ∧ M = M')) 0 0 (hw_A Z) := by
  refine hw_ofl (by decide +kernel) rfl (Nat.le_of_ble_eq_true rfl) ?_
  intro p e s m below meth c ls Q hx hb hml hown hts hk hnm hI hl hret
  have hnp := hB.np
  have hnw := hB.nw
  have e0_0hP : M (ad 0 0) = hw_ob 6 [.ref (ad 0 1), .ref (ad 0 2), .ref (ad 0 3), .int (nI (hs_np S)), .int (nI (hs_nw S)), .int (hs_G S 0), .int (hs_G S 1), .ref (ad 0 4), .ref (ad 0 8)] := hP.m 0 0 (by decide)
  have e0_1hP : M (ad 0 1) = hw_ar Z 3 4 (fun j => some (ad 1 j)) := hP.m 0 1 (by decide)
  refine lv_aload_n hx hb dX5_ofLayer_0 rfl (lv_at hl 0 rfl) ?_
  refine lv_iload_n hx hb dX5_ofLayer_1 rfl (lv_at hl 1 rfl) ?_
  refine hw_cr hI (hw_rV hx hb hml hown hts hk hI (m_X5_pieceAt_k l Z M (ad 0 0) (ad 0 1) (ad 0 2) (ad 0 3) (ad 0 4) (ad 0 8) (hs_np S) (hs_nw S) (hs_G S 0) (hs_G S 1) i (ad 1) e0_0hP e0_1hP hnp hi) cv_X5_57 e0_0hP rfl rfl ⟨rfl, rfl⟩ ⟨(Nat.le_of_ble_eq_true rfl), (Nat.le_of_ble_eq_true rfl)⟩ rfl hl.1 rfl (Nat.le_of_ble_eq_true rfl) ⟨(Nat.le_of_ble_eq_true rfl), (Nat.le_of_ble_eq_true rfl)⟩ dX5_ofLayer_2) (fun r2 M2 H locs hR hI => ?_)
  obtain ⟨rfl, rfl⟩ := hR
  have hi4 : i < 4 := by omega
  have e1_ihP : M (ad 1 i) = hw_ob 3 [.int (nI i), .ref (ad 2 i), .ref (ad 6 i), .int (hs_P S i 0), .int (nI (hs_D S i)), .double (hs_U S i), .int (hs_P S i 3), hp_ref (ad 9) (hs_P S i 4), .int (hs_P S i 5), .int (hs_P S i 6), .int (hs_P S i 7), .int (hs_P S i 8), .int (hs_P S i 9)] := hP.m 1 i hi4
  have e2_ihP : M (ad 2 i) = hw_ob 5 [.ref (ad 3 i), .ref (ad 4 i), .ref (ad 5 i)] := hP.m 2 i hi4
  have e3_ihP : M (ad 3 i) = hw_al Z 8 (hs_C S i) := hP.m 3 i hi4
  have e4_ihP : M (ad 4 i) = hw_al Z 8 (hb_hang (hs_C S i)) := hP.m 4 i hi4
  have e5_ihP : M (ad 5 i) = hw_al Z 8 (hb_supp (hs_C S i)) := hP.m 5 i hi4
  refine lv_astore (lv' := [(4, .ref (ad 1 i)), (0, .ref (ad 0 0)), (1, .int (nI i)), (2, .int (nI j)), (3, .int (nI 1))]) hx hb dX5_ofLayer_5 hl (by decide) rfl (fun ls hl => ?_)
  refine lv_iload_n hx hb dX5_ofLayer_7 rfl (lv_at hl 3 rfl) ?_
  refine hw_cv hI (hw_rS hx hb hml hown hts hk hI (m_X5_checkLayer_k l Z M j hj) cs_X5_61 ⟨rfl, rfl⟩ ⟨(Nat.le_of_ble_eq_true rfl), (Nat.le_of_ble_eq_true rfl)⟩ rfl hl.1 rfl (Nat.le_of_ble_eq_true rfl) ⟨(Nat.le_of_ble_eq_true rfl), (Nat.le_of_ble_eq_true rfl)⟩ dX5_ofLayer_8) (fun M8 H locs hR hI => ?_)
  subst hR
  refine lv_iload_n hx hb dX5_ofLayer_11 rfl (lv_at hl 4 rfl) ?_
  refine lv_tableIn (tgt := 51) hx hb dX5_ofLayer_12 (by decide) (by decide) rfl (by decide) ?_
  refine lv_aload hx hb dX5_ofLayer_51 (lv_at hl 0 rfl) ?_
  refine hw_get hx hb hts hown hk hI fd_X5_68 e1_ihP rfl dX5_ofLayer_53 ?_
  refine hw_get hx hb hts hown hk hI fd_X5_287 e2_ihP rfl dX5_ofLayer_56 ?_
  refine lv_iload_n hx hb dX5_ofLayer_59 rfl (lv_at hl 3 rfl) ?_
  refine hw_lald hx hb hk hI e4_ihP (j := j) rfl (by omega) (by decide) dX5_ofLayer_60 ?_
  exact hret hI (⟨rfl, rfl⟩) (Nat.le_of_ble_eq_true rfl) (Nat.le_of_ble_eq_true rfl) dX5_ofLayer_61

set_option maxHeartbeats 4000000 in
set_option maxRecDepth 100000 in
theorem m_X5_ofLayer_k2 (l : Launch) (Z : hw_Z) (M : hw_M) (ad : hp_ad) (S : hs_S) (T : hp_T) (b1 : Nat → Prop) (i : Nat) (j : Nat) (hP : hp_ok Z b1 M ad S T) (hB : hs_b S) (hi : i < hs_np S) (hj : j < 8) : Met l yX5_ofLayer (hw_m yX5_ofLayer cX5_ofLayer 5 (some .long)) ({ frames := 9, cells := 0, slots := 0, locals := 190 } : Room) (va_Pc [.ref (ad 0 0), .int (nI i), .int (nI j), .int (nI 2)] (hw_P Z M)) (hw_Ql Z (fun r M' => hs_ol S i j 2 = r ∧ M = M')) 0 0 (hw_A Z) := by
  refine hw_ofl (by decide +kernel) rfl (Nat.le_of_ble_eq_true rfl) ?_
  intro p e s m below meth c ls Q hx hb hml hown hts hk hnm hI hl hret
  have hnp := hB.np
  have hnw := hB.nw
  have e0_0hP : M (ad 0 0) = hw_ob 6 [.ref (ad 0 1), .ref (ad 0 2), .ref (ad 0 3), .int (nI (hs_np S)), .int (nI (hs_nw S)), .int (hs_G S 0), .int (hs_G S 1), .ref (ad 0 4), .ref (ad 0 8)] := hP.m 0 0 (by decide)
  have e0_1hP : M (ad 0 1) = hw_ar Z 3 4 (fun j => some (ad 1 j)) := hP.m 0 1 (by decide)
  refine lv_aload_n hx hb dX5_ofLayer_0 rfl (lv_at hl 0 rfl) ?_
  refine lv_iload_n hx hb dX5_ofLayer_1 rfl (lv_at hl 1 rfl) ?_
  refine hw_cr hI (hw_rV hx hb hml hown hts hk hI (m_X5_pieceAt_k l Z M (ad 0 0) (ad 0 1) (ad 0 2) (ad 0 3) (ad 0 4) (ad 0 8) (hs_np S) (hs_nw S) (hs_G S 0) (hs_G S 1) i (ad 1) e0_0hP e0_1hP hnp hi) cv_X5_57 e0_0hP rfl rfl ⟨rfl, rfl⟩ ⟨(Nat.le_of_ble_eq_true rfl), (Nat.le_of_ble_eq_true rfl)⟩ rfl hl.1 rfl (Nat.le_of_ble_eq_true rfl) ⟨(Nat.le_of_ble_eq_true rfl), (Nat.le_of_ble_eq_true rfl)⟩ dX5_ofLayer_2) (fun r2 M2 H locs hR hI => ?_)
  obtain ⟨rfl, rfl⟩ := hR
  have hi4 : i < 4 := by omega
  have e1_ihP : M (ad 1 i) = hw_ob 3 [.int (nI i), .ref (ad 2 i), .ref (ad 6 i), .int (hs_P S i 0), .int (nI (hs_D S i)), .double (hs_U S i), .int (hs_P S i 3), hp_ref (ad 9) (hs_P S i 4), .int (hs_P S i 5), .int (hs_P S i 6), .int (hs_P S i 7), .int (hs_P S i 8), .int (hs_P S i 9)] := hP.m 1 i hi4
  have e2_ihP : M (ad 2 i) = hw_ob 5 [.ref (ad 3 i), .ref (ad 4 i), .ref (ad 5 i)] := hP.m 2 i hi4
  have e3_ihP : M (ad 3 i) = hw_al Z 8 (hs_C S i) := hP.m 3 i hi4
  have e4_ihP : M (ad 4 i) = hw_al Z 8 (hb_hang (hs_C S i)) := hP.m 4 i hi4
  have e5_ihP : M (ad 5 i) = hw_al Z 8 (hb_supp (hs_C S i)) := hP.m 5 i hi4
  refine lv_astore (lv' := [(4, .ref (ad 1 i)), (0, .ref (ad 0 0)), (1, .int (nI i)), (2, .int (nI j)), (3, .int (nI 2))]) hx hb dX5_ofLayer_5 hl (by decide) rfl (fun ls hl => ?_)
  refine lv_iload_n hx hb dX5_ofLayer_7 rfl (lv_at hl 3 rfl) ?_
  refine hw_cv hI (hw_rS hx hb hml hown hts hk hI (m_X5_checkLayer_k l Z M j hj) cs_X5_61 ⟨rfl, rfl⟩ ⟨(Nat.le_of_ble_eq_true rfl), (Nat.le_of_ble_eq_true rfl)⟩ rfl hl.1 rfl (Nat.le_of_ble_eq_true rfl) ⟨(Nat.le_of_ble_eq_true rfl), (Nat.le_of_ble_eq_true rfl)⟩ dX5_ofLayer_8) (fun M8 H locs hR hI => ?_)
  subst hR
  refine lv_iload_n hx hb dX5_ofLayer_11 rfl (lv_at hl 4 rfl) ?_
  refine lv_tableIn (tgt := 62) hx hb dX5_ofLayer_12 (by decide) (by decide) rfl (by decide) ?_
  refine lv_aload hx hb dX5_ofLayer_62 (lv_at hl 0 rfl) ?_
  refine hw_get hx hb hts hown hk hI fd_X5_68 e1_ihP rfl dX5_ofLayer_64 ?_
  refine hw_get hx hb hts hown hk hI fd_X5_290 e2_ihP rfl dX5_ofLayer_67 ?_
  refine lv_iload_n hx hb dX5_ofLayer_70 rfl (lv_at hl 3 rfl) ?_
  refine hw_lald hx hb hk hI e5_ihP (j := j) rfl (by omega) (by decide) dX5_ofLayer_71 ?_
  exact hret hI (⟨rfl, rfl⟩) (Nat.le_of_ble_eq_true rfl) (Nat.le_of_ble_eq_true rfl) dX5_ofLayer_72

set_option maxHeartbeats 4000000 in
set_option maxRecDepth 100000 in
theorem m_X5_ofLayer_o (l : Launch) (hst : l.stackTraces = false) (Z : hw_Z) (M : hw_M) (ad : hp_ad) (S : hs_S) (T : hp_T) (b1 : Nat → Prop) (ka : Int32) (kb : Int32) (kw : Int32) (hP : hp_ok Z b1 M ad S T) (hB : hs_b S) (hw : ¬ hb_ok kw 3) : vx_Met l yX5_ofLayer (hw_m yX5_ofLayer cX5_ofLayer 5 (some .long)) ({ frames := 9, cells := 6, slots := 36, locals := 190 } : Room) (va_Pc [.ref (ad 0 0), .int ka, .int kb, .int kw] (hw_P Z M)) (hw_Ql Z (hq_N M S (st_ofLayer S ka kb kw))) (hw_X Z (hq_X ["java/lang/IndexOutOfBoundsException", "java/lang/IllegalArgumentException"] M S (st_ofLayer S ka kb kw))) 6 36 (hw_A Z) := by
  refine hw_xofl hst (by decide +kernel) rfl (Nat.le_of_ble_eq_true rfl) ?_
  intro p e s m below meth c ls Q hx hb hml hown hts hk hnm hI hl hret hxo hthr hthrW
  have hnp := hB.np
  have hnw := hB.nw
  have e0_0hP : M (ad 0 0) = hw_ob 6 [.ref (ad 0 1), .ref (ad 0 2), .ref (ad 0 3), .int (nI (hs_np S)), .int (nI (hs_nw S)), .int (hs_G S 0), .int (hs_G S 1), .ref (ad 0 4), .ref (ad 0 8)] := hP.m 0 0 (by decide)
  have e0_1hP : M (ad 0 1) = hw_ar Z 3 4 (fun j => some (ad 1 j)) := hP.m 0 1 (by decide)
  refine lv_aload_n hx hb dX5_ofLayer_0 rfl (lv_at hl 0 rfl) ?_
  refine lv_iload_n hx hb dX5_ofLayer_1 rfl (lv_at hl 1 rfl) ?_
  refine hw_xr hI hxo (hw_xV hx hb hml hown hts hk hI (m_X5_pieceAt l hst Z M (ad 0 0) (ad 0 1) (ad 0 2) (ad 0 3) (ad 0 4) (ad 0 8) (hs_np S) (hs_nw S) (hs_G S 0) (hs_G S 1) ka (ad 1) e0_0hP e0_1hP hnp) cv_X5_57 e0_0hP rfl rfl ⟨rfl, rfl⟩ ⟨(Nat.le_of_ble_eq_true rfl), (Nat.le_of_ble_eq_true rfl)⟩ rfl hl.1 rfl (Nat.le_of_ble_eq_true rfl) ⟨(Nat.le_of_ble_eq_true rfl), (Nat.le_of_ble_eq_true rfl)⟩ dX5_ofLayer_2) (hq_xc (c := 1) (fun h => by unfold st_ofLayer; exact (hq_if (fun q => h q.1) ⟨rfl, rfl⟩)) ⟨by decide, rfl⟩) (Nat.le_of_ble_eq_true rfl) (Nat.le_of_ble_eq_true rfl) (fun r2 M2 H locs hR hI => ?_)
  obtain ⟨⟨hk2, rfl⟩, rfl⟩ := hR
  refine lv_astore (lv' := [(4, .ref (ad 1 (hb_ix ka))), (0, .ref (ad 0 0)), (1, .int ka), (2, .int kb), (3, .int kw)]) hx hb dX5_ofLayer_5 hl (by decide) rfl (fun ls hl => ?_)
  refine lv_iload_n hx hb dX5_ofLayer_7 rfl (lv_at hl 3 rfl) ?_
  refine hw_xv hI hxo (hw_xS hx hb hml hown hts hk hI (m_X5_checkLayer l hst Z M kb) cs_X5_61 ⟨rfl, rfl⟩ ⟨(Nat.le_of_ble_eq_true rfl), (Nat.le_of_ble_eq_true rfl)⟩ rfl hl.1 rfl (Nat.le_of_ble_eq_true rfl) ⟨(Nat.le_of_ble_eq_true rfl), (Nat.le_of_ble_eq_true rfl)⟩ dX5_ofLayer_8) (hq_xc (c := 1) (fun h => by unfold st_ofLayer; exact (hq_if (fun q => h q.2) ⟨rfl, rfl⟩)) ⟨by decide, rfl⟩) (Nat.le_of_ble_eq_true rfl) (Nat.le_of_ble_eq_true rfl) (fun M8 H locs hR hI => ?_)
  obtain ⟨hk8, rfl⟩ := hR
  refine lv_iload_n hx hb dX5_ofLayer_11 rfl (lv_at hl 4 rfl) ?_
  refine lv_tableOut (tgt := 73) hx hb dX5_ofLayer_12 (by have := hq_out (n := 3) (by decide) hw; omega) (by decide) ?_
  exact hthrW hI th_X5_96_293_100 hl.1 dX5_ofLayer_73 dX5_ofLayer_76 dX5_ofLayer_77 dX5_ofLayer_80 dX5_ofLayer_83 (Nat.le_of_ble_eq_true rfl) (Nat.le_of_ble_eq_true rfl) (Nat.le_of_ble_eq_true rfl) (Nat.le_of_ble_eq_true rfl) (hq_x (c := 2) (by unfold st_ofLayer; exact (hq_el (fun q => q ⟨hk2, hk8⟩) (hq_if hw ⟨rfl, rfl⟩))) ⟨by decide, rfl⟩ rfl) (Nat.le_of_ble_eq_true rfl) (Nat.le_of_ble_eq_true rfl)

theorem m_X5_ofLayer (l : Launch) (hst : l.stackTraces = false) (Z : hw_Z) (M : hw_M) (ad : hp_ad) (S : hs_S) (T : hp_T) (b1 : Nat → Prop) (ka : Int32) (kb : Int32) (kw : Int32) (hP : hp_ok Z b1 M ad S T) (hB : hs_b S) : vx_Met l yX5_ofLayer (hw_m yX5_ofLayer cX5_ofLayer 5 (some .long)) ({ frames := 9, cells := 6, slots := 36, locals := 190 } : Room) (va_Pc [.ref (ad 0 0), .int ka, .int kb, .int kw] (hw_P Z M)) (hw_Ql Z (hq_N M S (st_ofLayer S ka kb kw))) (hw_X Z (hq_X ["java/lang/IndexOutOfBoundsException", "java/lang/IllegalArgumentException"] M S (st_ofLayer S ka kb kw))) 6 36 (hw_A Z) := by
  by_cases hw : hb_ok kw 3
  · obtain ⟨j, hj, rfl⟩ := hb_okj (by decide) hw
    rcases (show j = 0 ∨ j = 1 ∨ j = 2 by omega) with rfl | rfl | rfl
    · exact m_X5_ofLayer_0 l hst Z M ad S T b1 ka kb hP hB
    · exact m_X5_ofLayer_1 l hst Z M ad S T b1 ka kb hP hB
    · exact m_X5_ofLayer_2 l hst Z M ad S T b1 ka kb hP hB
  · exact m_X5_ofLayer_o l hst Z M ad S T b1 ka kb kw hP hB hw

theorem m_X5_ofLayer_k (l : Launch) (Z : hw_Z) (M : hw_M) (ad : hp_ad) (S : hs_S) (T : hp_T) (b1 : Nat → Prop) (i : Nat) (j : Nat) (w : Nat) (hP : hp_ok Z b1 M ad S T) (hB : hs_b S) (hi : i < hs_np S) (hj : j < 8) (hw : w < 3) : Met l yX5_ofLayer (hw_m yX5_ofLayer cX5_ofLayer 5 (some .long)) ({ frames := 9, cells := 0, slots := 0, locals := 190 } : Room) (va_Pc [.ref (ad 0 0), .int (nI i), .int (nI j), .int (nI w)] (hw_P Z M)) (hw_Ql Z (fun r M' => hs_ol S i j w = r ∧ M = M')) 0 0 (hw_A Z) := by
  rcases (show w = 0 ∨ w = 1 ∨ w = 2 by omega) with rfl | rfl | rfl
  · exact m_X5_ofLayer_k0 l Z M ad S T b1 i j hP hB hi hj
  · exact m_X5_ofLayer_k1 l Z M ad S T b1 i j hP hB hi hj
  · exact m_X5_ofLayer_k2 l Z M ad S T b1 i j hP hB hi hj

set_option maxHeartbeats 4000000 in
set_option maxRecDepth 100000 in
theorem m_X5_measure_0 (l : Launch) (hst : l.stackTraces = false) (Z : hw_Z) (M : hw_M) (ad : hp_ad) (S : hs_S) (T : hp_T) (b1 : Nat → Prop) (ka : Int32) (hP : hp_ok Z b1 M ad S T) (hB : hs_b S) : vx_Met l yX5_measure (hw_m yX5_measure cX5_measure 4 (some .double)) ({ frames := 9, cells := 6, slots := 36, locals := 190 } : Room) (va_Pc [.ref (ad 0 0), .int ka, .int (nI 0)] (hw_P Z M)) (hw_Qd Z (hq_N M S (st_measure S ka (nI 0)))) (hw_X Z (hq_X ["java/lang/IndexOutOfBoundsException", "java/lang/IllegalArgumentException"] M S (st_measure S ka (nI 0)))) 6 36 (hw_A Z) := by
  refine hw_xofd hst (by decide +kernel) rfl (Nat.le_of_ble_eq_true rfl) ?_
  intro p e s m below meth c ls Q hx hb hml hown hts hk hnm hI hl hret hxo hthr hthrW
  have hnp := hB.np
  have hnw := hB.nw
  have e0_0hP : M (ad 0 0) = hw_ob 6 [.ref (ad 0 1), .ref (ad 0 2), .ref (ad 0 3), .int (nI (hs_np S)), .int (nI (hs_nw S)), .int (hs_G S 0), .int (hs_G S 1), .ref (ad 0 4), .ref (ad 0 8)] := hP.m 0 0 (by decide)
  have e0_1hP : M (ad 0 1) = hw_ar Z 3 4 (fun j => some (ad 1 j)) := hP.m 0 1 (by decide)
  refine lv_aload_n hx hb dX5_measure_0 rfl (lv_at hl 0 rfl) ?_
  refine lv_iload_n hx hb dX5_measure_1 rfl (lv_at hl 1 rfl) ?_
  refine hw_xr hI hxo (hw_xV hx hb hml hown hts hk hI (m_X5_pieceAt l hst Z M (ad 0 0) (ad 0 1) (ad 0 2) (ad 0 3) (ad 0 4) (ad 0 8) (hs_np S) (hs_nw S) (hs_G S 0) (hs_G S 1) ka (ad 1) e0_0hP e0_1hP hnp) cv_X5_57 e0_0hP rfl rfl ⟨rfl, rfl⟩ ⟨(Nat.le_of_ble_eq_true rfl), (Nat.le_of_ble_eq_true rfl)⟩ rfl hl.1 rfl (Nat.le_of_ble_eq_true rfl) ⟨(Nat.le_of_ble_eq_true rfl), (Nat.le_of_ble_eq_true rfl)⟩ dX5_measure_2) (hq_xc (c := 1) (fun h => by unfold st_measure; exact (hq_if h ⟨rfl, rfl⟩)) ⟨by decide, rfl⟩) (Nat.le_of_ble_eq_true rfl) (Nat.le_of_ble_eq_true rfl) (fun r2 M2 H locs hR hI => ?_)
  obtain ⟨⟨hk2, rfl⟩, rfl⟩ := hR
  have hx2 := hb_okx (by omega) hk2
  have hi2 : hb_ix ka < 4 := by have := hx2.1; omega
  have e1_hb_ix_kahP : M (ad 1 (hb_ix ka)) = hw_ob 3 [.int (nI (hb_ix ka)), .ref (ad 2 (hb_ix ka)), .ref (ad 6 (hb_ix ka)), .int (hs_P S (hb_ix ka) 0), .int (nI (hs_D S (hb_ix ka))), .double (hs_U S (hb_ix ka)), .int (hs_P S (hb_ix ka) 3), hp_ref (ad 9) (hs_P S (hb_ix ka) 4), .int (hs_P S (hb_ix ka) 5), .int (hs_P S (hb_ix ka) 6), .int (hs_P S (hb_ix ka) 7), .int (hs_P S (hb_ix ka) 8), .int (hs_P S (hb_ix ka) 9)] := hP.m 1 (hb_ix ka) hi2
  have e2_hb_ix_kahP : M (ad 2 (hb_ix ka)) = hw_ob 5 [.ref (ad 3 (hb_ix ka)), .ref (ad 4 (hb_ix ka)), .ref (ad 5 (hb_ix ka))] := hP.m 2 (hb_ix ka) hi2
  have e3_hb_ix_kahP : M (ad 3 (hb_ix ka)) = hw_al Z 8 (hs_C S (hb_ix ka)) := hP.m 3 (hb_ix ka) hi2
  have e6_hb_ix_kahP : M (ad 6 (hb_ix ka)) = hw_ob 2 [.ref (ad 7 (hb_ix ka)), .int (hs_P S (hb_ix ka) 1), .int (hs_P S (hb_ix ka) 2)] := hP.m 6 (hb_ix ka) hi2
  refine lv_astore_n (lv' := [(3, .ref (ad 1 (hb_ix ka))), (0, .ref (ad 0 0)), (1, .int ka), (2, .int (nI 0))]) hx hb dX5_measure_5 rfl hl (by decide) rfl (fun ls hl => ?_)
  refine lv_iload_n hx hb dX5_measure_6 rfl (lv_at hl 3 rfl) ?_
  refine lv_lookup (off := 25) (tgt := 32) hx hb dX5_measure_7 (by decide) (by decide) (by decide) ?_
  refine lv_aload_n hx hb dX5_measure_32 rfl (lv_at hl 0 rfl) ?_
  refine hw_cd hI (hw_rV hx hb hml hown hts hk hI (m_X2_density l Z M (ad 1 (hb_ix ka)) (ad 2 (hb_ix ka)) (ad 6 (hb_ix ka)) (nI (hb_ix ka)) (hs_P S (hb_ix ka) 0) (hs_P S (hb_ix ka) 3) (hs_P S (hb_ix ka) 5) (hs_P S (hb_ix ka) 6) (hs_P S (hb_ix ka) 7) (hs_P S (hb_ix ka) 8) (hs_P S (hb_ix ka) 9) (hs_U S (hb_ix ka)) (hs_D S (hb_ix ka)) (hp_ref (ad 9) (hs_P S (hb_ix ka) 4)) (ad 3 (hb_ix ka)) (ad 4 (hb_ix ka)) (ad 5 (hb_ix ka)) (ad 7 (hb_ix ka)) (hs_C S (hb_ix ka)) (hs_P S (hb_ix ka) 1) (hs_P S (hb_ix ka) 2) e1_hb_ix_kahP e2_hb_ix_kahP e3_hb_ix_kahP e6_hb_ix_kahP) cv_X5_308 e1_hb_ix_kahP rfl rfl ⟨rfl, rfl⟩ ⟨(Nat.le_of_ble_eq_true rfl), (Nat.le_of_ble_eq_true rfl)⟩ rfl hl.1 rfl (Nat.le_of_ble_eq_true rfl) ⟨(Nat.le_of_ble_eq_true rfl), (Nat.le_of_ble_eq_true rfl)⟩ dX5_measure_33) (fun r33 M33 H locs hR hI => ?_)
  obtain ⟨rfl, rfl⟩ := hR
  exact hret hI (⟨by unfold st_measure; exact (if_neg (fun q => q hk2)).trans ((if_neg (fun q => q (by decide))).trans rfl), rfl⟩) (Nat.le_of_ble_eq_true rfl) (Nat.le_of_ble_eq_true rfl) dX5_measure_36

set_option maxHeartbeats 4000000 in
set_option maxRecDepth 100000 in
theorem m_X5_measure_1 (l : Launch) (hst : l.stackTraces = false) (Z : hw_Z) (M : hw_M) (ad : hp_ad) (S : hs_S) (T : hp_T) (b1 : Nat → Prop) (ka : Int32) (hP : hp_ok Z b1 M ad S T) (hB : hs_b S) : vx_Met l yX5_measure (hw_m yX5_measure cX5_measure 4 (some .double)) ({ frames := 9, cells := 6, slots := 36, locals := 190 } : Room) (va_Pc [.ref (ad 0 0), .int ka, .int (nI 1)] (hw_P Z M)) (hw_Qd Z (hq_N M S (st_measure S ka (nI 1)))) (hw_X Z (hq_X ["java/lang/IndexOutOfBoundsException", "java/lang/IllegalArgumentException"] M S (st_measure S ka (nI 1)))) 6 36 (hw_A Z) := by
  refine hw_xofd hst (by decide +kernel) rfl (Nat.le_of_ble_eq_true rfl) ?_
  intro p e s m below meth c ls Q hx hb hml hown hts hk hnm hI hl hret hxo hthr hthrW
  have hnp := hB.np
  have hnw := hB.nw
  have e0_0hP : M (ad 0 0) = hw_ob 6 [.ref (ad 0 1), .ref (ad 0 2), .ref (ad 0 3), .int (nI (hs_np S)), .int (nI (hs_nw S)), .int (hs_G S 0), .int (hs_G S 1), .ref (ad 0 4), .ref (ad 0 8)] := hP.m 0 0 (by decide)
  have e0_1hP : M (ad 0 1) = hw_ar Z 3 4 (fun j => some (ad 1 j)) := hP.m 0 1 (by decide)
  refine lv_aload_n hx hb dX5_measure_0 rfl (lv_at hl 0 rfl) ?_
  refine lv_iload_n hx hb dX5_measure_1 rfl (lv_at hl 1 rfl) ?_
  refine hw_xr hI hxo (hw_xV hx hb hml hown hts hk hI (m_X5_pieceAt l hst Z M (ad 0 0) (ad 0 1) (ad 0 2) (ad 0 3) (ad 0 4) (ad 0 8) (hs_np S) (hs_nw S) (hs_G S 0) (hs_G S 1) ka (ad 1) e0_0hP e0_1hP hnp) cv_X5_57 e0_0hP rfl rfl ⟨rfl, rfl⟩ ⟨(Nat.le_of_ble_eq_true rfl), (Nat.le_of_ble_eq_true rfl)⟩ rfl hl.1 rfl (Nat.le_of_ble_eq_true rfl) ⟨(Nat.le_of_ble_eq_true rfl), (Nat.le_of_ble_eq_true rfl)⟩ dX5_measure_2) (hq_xc (c := 1) (fun h => by unfold st_measure; exact (hq_if h ⟨rfl, rfl⟩)) ⟨by decide, rfl⟩) (Nat.le_of_ble_eq_true rfl) (Nat.le_of_ble_eq_true rfl) (fun r2 M2 H locs hR hI => ?_)
  obtain ⟨⟨hk2, rfl⟩, rfl⟩ := hR
  have hx2 := hb_okx (by omega) hk2
  have hi2 : hb_ix ka < 4 := by have := hx2.1; omega
  have e1_hb_ix_kahP : M (ad 1 (hb_ix ka)) = hw_ob 3 [.int (nI (hb_ix ka)), .ref (ad 2 (hb_ix ka)), .ref (ad 6 (hb_ix ka)), .int (hs_P S (hb_ix ka) 0), .int (nI (hs_D S (hb_ix ka))), .double (hs_U S (hb_ix ka)), .int (hs_P S (hb_ix ka) 3), hp_ref (ad 9) (hs_P S (hb_ix ka) 4), .int (hs_P S (hb_ix ka) 5), .int (hs_P S (hb_ix ka) 6), .int (hs_P S (hb_ix ka) 7), .int (hs_P S (hb_ix ka) 8), .int (hs_P S (hb_ix ka) 9)] := hP.m 1 (hb_ix ka) hi2
  have e2_hb_ix_kahP : M (ad 2 (hb_ix ka)) = hw_ob 5 [.ref (ad 3 (hb_ix ka)), .ref (ad 4 (hb_ix ka)), .ref (ad 5 (hb_ix ka))] := hP.m 2 (hb_ix ka) hi2
  have e3_hb_ix_kahP : M (ad 3 (hb_ix ka)) = hw_al Z 8 (hs_C S (hb_ix ka)) := hP.m 3 (hb_ix ka) hi2
  have e6_hb_ix_kahP : M (ad 6 (hb_ix ka)) = hw_ob 2 [.ref (ad 7 (hb_ix ka)), .int (hs_P S (hb_ix ka) 1), .int (hs_P S (hb_ix ka) 2)] := hP.m 6 (hb_ix ka) hi2
  refine lv_astore_n (lv' := [(3, .ref (ad 1 (hb_ix ka))), (0, .ref (ad 0 0)), (1, .int ka), (2, .int (nI 1))]) hx hb dX5_measure_5 rfl hl (by decide) rfl (fun ls hl => ?_)
  refine lv_iload_n hx hb dX5_measure_6 rfl (lv_at hl 3 rfl) ?_
  refine lv_lookup (off := 30) (tgt := 37) hx hb dX5_measure_7 (by decide) (by decide) (by decide) ?_
  refine lv_aload_n hx hb dX5_measure_37 rfl (lv_at hl 0 rfl) ?_
  refine hw_get hx hb hts hown hk hI fd_X5_312 e1_hb_ix_kahP rfl dX5_measure_38 ?_
  exact hret hI (⟨by unfold st_measure; exact (if_neg (fun q => q hk2)).trans ((if_neg (fun q => q (by decide))).trans rfl), rfl⟩) (Nat.le_of_ble_eq_true rfl) (Nat.le_of_ble_eq_true rfl) dX5_measure_41

set_option maxHeartbeats 4000000 in
set_option maxRecDepth 100000 in
theorem m_X5_measure_k0 (l : Launch) (Z : hw_Z) (M : hw_M) (ad : hp_ad) (S : hs_S) (T : hp_T) (b1 : Nat → Prop) (i : Nat) (hP : hp_ok Z b1 M ad S T) (hB : hs_b S) (hi : i < hs_np S) : Met l yX5_measure (hw_m yX5_measure cX5_measure 4 (some .double)) ({ frames := 9, cells := 0, slots := 0, locals := 190 } : Room) (va_Pc [.ref (ad 0 0), .int (nI i), .int (nI 0)] (hw_P Z M)) (hw_Qd Z (fun r M' => hs_me S i 0 = r ∧ M = M')) 0 0 (hw_A Z) := by
  refine hw_ofd (by decide +kernel) rfl (Nat.le_of_ble_eq_true rfl) ?_
  intro p e s m below meth c ls Q hx hb hml hown hts hk hnm hI hl hret
  have hnp := hB.np
  have hnw := hB.nw
  have e0_0hP : M (ad 0 0) = hw_ob 6 [.ref (ad 0 1), .ref (ad 0 2), .ref (ad 0 3), .int (nI (hs_np S)), .int (nI (hs_nw S)), .int (hs_G S 0), .int (hs_G S 1), .ref (ad 0 4), .ref (ad 0 8)] := hP.m 0 0 (by decide)
  have e0_1hP : M (ad 0 1) = hw_ar Z 3 4 (fun j => some (ad 1 j)) := hP.m 0 1 (by decide)
  refine lv_aload_n hx hb dX5_measure_0 rfl (lv_at hl 0 rfl) ?_
  refine lv_iload_n hx hb dX5_measure_1 rfl (lv_at hl 1 rfl) ?_
  refine hw_cr hI (hw_rV hx hb hml hown hts hk hI (m_X5_pieceAt_k l Z M (ad 0 0) (ad 0 1) (ad 0 2) (ad 0 3) (ad 0 4) (ad 0 8) (hs_np S) (hs_nw S) (hs_G S 0) (hs_G S 1) i (ad 1) e0_0hP e0_1hP hnp hi) cv_X5_57 e0_0hP rfl rfl ⟨rfl, rfl⟩ ⟨(Nat.le_of_ble_eq_true rfl), (Nat.le_of_ble_eq_true rfl)⟩ rfl hl.1 rfl (Nat.le_of_ble_eq_true rfl) ⟨(Nat.le_of_ble_eq_true rfl), (Nat.le_of_ble_eq_true rfl)⟩ dX5_measure_2) (fun r2 M2 H locs hR hI => ?_)
  obtain ⟨rfl, rfl⟩ := hR
  have hi4 : i < 4 := by omega
  have e1_ihP : M (ad 1 i) = hw_ob 3 [.int (nI i), .ref (ad 2 i), .ref (ad 6 i), .int (hs_P S i 0), .int (nI (hs_D S i)), .double (hs_U S i), .int (hs_P S i 3), hp_ref (ad 9) (hs_P S i 4), .int (hs_P S i 5), .int (hs_P S i 6), .int (hs_P S i 7), .int (hs_P S i 8), .int (hs_P S i 9)] := hP.m 1 i hi4
  have e2_ihP : M (ad 2 i) = hw_ob 5 [.ref (ad 3 i), .ref (ad 4 i), .ref (ad 5 i)] := hP.m 2 i hi4
  have e3_ihP : M (ad 3 i) = hw_al Z 8 (hs_C S i) := hP.m 3 i hi4
  have e6_ihP : M (ad 6 i) = hw_ob 2 [.ref (ad 7 i), .int (hs_P S i 1), .int (hs_P S i 2)] := hP.m 6 i hi4
  refine lv_astore_n (lv' := [(3, .ref (ad 1 i)), (0, .ref (ad 0 0)), (1, .int (nI i)), (2, .int (nI 0))]) hx hb dX5_measure_5 rfl hl (by decide) rfl (fun ls hl => ?_)
  refine lv_iload_n hx hb dX5_measure_6 rfl (lv_at hl 3 rfl) ?_
  refine lv_lookup (off := 25) (tgt := 32) hx hb dX5_measure_7 (by decide) (by decide) (by decide) ?_
  refine lv_aload_n hx hb dX5_measure_32 rfl (lv_at hl 0 rfl) ?_
  refine hw_cd hI (hw_rV hx hb hml hown hts hk hI (m_X2_density l Z M (ad 1 i) (ad 2 i) (ad 6 i) (nI i) (hs_P S i 0) (hs_P S i 3) (hs_P S i 5) (hs_P S i 6) (hs_P S i 7) (hs_P S i 8) (hs_P S i 9) (hs_U S i) (hs_D S i) (hp_ref (ad 9) (hs_P S i 4)) (ad 3 i) (ad 4 i) (ad 5 i) (ad 7 i) (hs_C S i) (hs_P S i 1) (hs_P S i 2) e1_ihP e2_ihP e3_ihP e6_ihP) cv_X5_308 e1_ihP rfl rfl ⟨rfl, rfl⟩ ⟨(Nat.le_of_ble_eq_true rfl), (Nat.le_of_ble_eq_true rfl)⟩ rfl hl.1 rfl (Nat.le_of_ble_eq_true rfl) ⟨(Nat.le_of_ble_eq_true rfl), (Nat.le_of_ble_eq_true rfl)⟩ dX5_measure_33) (fun r33 M33 H locs hR hI => ?_)
  obtain ⟨rfl, rfl⟩ := hR
  exact hret hI (⟨rfl, rfl⟩) (Nat.le_of_ble_eq_true rfl) (Nat.le_of_ble_eq_true rfl) dX5_measure_36

set_option maxHeartbeats 4000000 in
set_option maxRecDepth 100000 in
theorem m_X5_measure_k1 (l : Launch) (Z : hw_Z) (M : hw_M) (ad : hp_ad) (S : hs_S) (T : hp_T) (b1 : Nat → Prop) (i : Nat) (hP : hp_ok Z b1 M ad S T) (hB : hs_b S) (hi : i < hs_np S) : Met l yX5_measure (hw_m yX5_measure cX5_measure 4 (some .double)) ({ frames := 9, cells := 0, slots := 0, locals := 190 } : Room) (va_Pc [.ref (ad 0 0), .int (nI i), .int (nI 1)] (hw_P Z M)) (hw_Qd Z (fun r M' => hs_me S i 1 = r ∧ M = M')) 0 0 (hw_A Z) := by
  refine hw_ofd (by decide +kernel) rfl (Nat.le_of_ble_eq_true rfl) ?_
  intro p e s m below meth c ls Q hx hb hml hown hts hk hnm hI hl hret
  have hnp := hB.np
  have hnw := hB.nw
  have e0_0hP : M (ad 0 0) = hw_ob 6 [.ref (ad 0 1), .ref (ad 0 2), .ref (ad 0 3), .int (nI (hs_np S)), .int (nI (hs_nw S)), .int (hs_G S 0), .int (hs_G S 1), .ref (ad 0 4), .ref (ad 0 8)] := hP.m 0 0 (by decide)
  have e0_1hP : M (ad 0 1) = hw_ar Z 3 4 (fun j => some (ad 1 j)) := hP.m 0 1 (by decide)
  refine lv_aload_n hx hb dX5_measure_0 rfl (lv_at hl 0 rfl) ?_
  refine lv_iload_n hx hb dX5_measure_1 rfl (lv_at hl 1 rfl) ?_
  refine hw_cr hI (hw_rV hx hb hml hown hts hk hI (m_X5_pieceAt_k l Z M (ad 0 0) (ad 0 1) (ad 0 2) (ad 0 3) (ad 0 4) (ad 0 8) (hs_np S) (hs_nw S) (hs_G S 0) (hs_G S 1) i (ad 1) e0_0hP e0_1hP hnp hi) cv_X5_57 e0_0hP rfl rfl ⟨rfl, rfl⟩ ⟨(Nat.le_of_ble_eq_true rfl), (Nat.le_of_ble_eq_true rfl)⟩ rfl hl.1 rfl (Nat.le_of_ble_eq_true rfl) ⟨(Nat.le_of_ble_eq_true rfl), (Nat.le_of_ble_eq_true rfl)⟩ dX5_measure_2) (fun r2 M2 H locs hR hI => ?_)
  obtain ⟨rfl, rfl⟩ := hR
  have hi4 : i < 4 := by omega
  have e1_ihP : M (ad 1 i) = hw_ob 3 [.int (nI i), .ref (ad 2 i), .ref (ad 6 i), .int (hs_P S i 0), .int (nI (hs_D S i)), .double (hs_U S i), .int (hs_P S i 3), hp_ref (ad 9) (hs_P S i 4), .int (hs_P S i 5), .int (hs_P S i 6), .int (hs_P S i 7), .int (hs_P S i 8), .int (hs_P S i 9)] := hP.m 1 i hi4
  have e2_ihP : M (ad 2 i) = hw_ob 5 [.ref (ad 3 i), .ref (ad 4 i), .ref (ad 5 i)] := hP.m 2 i hi4
  have e3_ihP : M (ad 3 i) = hw_al Z 8 (hs_C S i) := hP.m 3 i hi4
  have e6_ihP : M (ad 6 i) = hw_ob 2 [.ref (ad 7 i), .int (hs_P S i 1), .int (hs_P S i 2)] := hP.m 6 i hi4
  refine lv_astore_n (lv' := [(3, .ref (ad 1 i)), (0, .ref (ad 0 0)), (1, .int (nI i)), (2, .int (nI 1))]) hx hb dX5_measure_5 rfl hl (by decide) rfl (fun ls hl => ?_)
  refine lv_iload_n hx hb dX5_measure_6 rfl (lv_at hl 3 rfl) ?_
  refine lv_lookup (off := 30) (tgt := 37) hx hb dX5_measure_7 (by decide) (by decide) (by decide) ?_
  refine lv_aload_n hx hb dX5_measure_37 rfl (lv_at hl 0 rfl) ?_
  refine hw_get hx hb hts hown hk hI fd_X5_312 e1_ihP rfl dX5_measure_38 ?_
  exact hret hI (⟨rfl, rfl⟩) (Nat.le_of_ble_eq_true rfl) (Nat.le_of_ble_eq_true rfl) dX5_measure_41

set_option maxHeartbeats 4000000 in
set_option maxRecDepth 100000 in
theorem m_X5_measure_o (l : Launch) (hst : l.stackTraces = false) (Z : hw_Z) (M : hw_M) (ad : hp_ad) (S : hs_S) (T : hp_T) (b1 : Nat → Prop) (ka : Int32) (kw : Int32) (hP : hp_ok Z b1 M ad S T) (hB : hs_b S) (hw : ¬ hb_ok kw 2) : vx_Met l yX5_measure (hw_m yX5_measure cX5_measure 4 (some .double)) ({ frames := 9, cells := 6, slots := 36, locals := 190 } : Room) (va_Pc [.ref (ad 0 0), .int ka, .int kw] (hw_P Z M)) (hw_Qd Z (hq_N M S (st_measure S ka kw))) (hw_X Z (hq_X ["java/lang/IndexOutOfBoundsException", "java/lang/IllegalArgumentException"] M S (st_measure S ka kw))) 6 36 (hw_A Z) := by
  refine hw_xofd hst (by decide +kernel) rfl (Nat.le_of_ble_eq_true rfl) ?_
  intro p e s m below meth c ls Q hx hb hml hown hts hk hnm hI hl hret hxo hthr hthrW
  have hnp := hB.np
  have hnw := hB.nw
  have e0_0hP : M (ad 0 0) = hw_ob 6 [.ref (ad 0 1), .ref (ad 0 2), .ref (ad 0 3), .int (nI (hs_np S)), .int (nI (hs_nw S)), .int (hs_G S 0), .int (hs_G S 1), .ref (ad 0 4), .ref (ad 0 8)] := hP.m 0 0 (by decide)
  have e0_1hP : M (ad 0 1) = hw_ar Z 3 4 (fun j => some (ad 1 j)) := hP.m 0 1 (by decide)
  refine lv_aload_n hx hb dX5_measure_0 rfl (lv_at hl 0 rfl) ?_
  refine lv_iload_n hx hb dX5_measure_1 rfl (lv_at hl 1 rfl) ?_
  refine hw_xr hI hxo (hw_xV hx hb hml hown hts hk hI (m_X5_pieceAt l hst Z M (ad 0 0) (ad 0 1) (ad 0 2) (ad 0 3) (ad 0 4) (ad 0 8) (hs_np S) (hs_nw S) (hs_G S 0) (hs_G S 1) ka (ad 1) e0_0hP e0_1hP hnp) cv_X5_57 e0_0hP rfl rfl ⟨rfl, rfl⟩ ⟨(Nat.le_of_ble_eq_true rfl), (Nat.le_of_ble_eq_true rfl)⟩ rfl hl.1 rfl (Nat.le_of_ble_eq_true rfl) ⟨(Nat.le_of_ble_eq_true rfl), (Nat.le_of_ble_eq_true rfl)⟩ dX5_measure_2) (hq_xc (c := 1) (fun h => by unfold st_measure; exact (hq_if h ⟨rfl, rfl⟩)) ⟨by decide, rfl⟩) (Nat.le_of_ble_eq_true rfl) (Nat.le_of_ble_eq_true rfl) (fun r2 M2 H locs hR hI => ?_)
  obtain ⟨⟨hk2, rfl⟩, rfl⟩ := hR
  refine lv_astore_n (lv' := [(3, .ref (ad 1 (hb_ix ka))), (0, .ref (ad 0 0)), (1, .int ka), (2, .int kw)]) hx hb dX5_measure_5 rfl hl (by decide) rfl (fun ls hl => ?_)
  refine lv_iload_n hx hb dX5_measure_6 rfl (lv_at hl 3 rfl) ?_
  refine lv_lookup (off := 35) (tgt := 42) hx hb dX5_measure_7 (by decide) (by have := hq_out (n := 2) (by decide) hw; exact (if_neg (by omega)).trans ((if_neg (by omega)).trans rfl)) (by decide) ?_
  exact hthrW hI th_X5_96_316_100 hl.1 dX5_measure_42 dX5_measure_45 dX5_measure_46 dX5_measure_49 dX5_measure_52 (Nat.le_of_ble_eq_true rfl) (Nat.le_of_ble_eq_true rfl) (Nat.le_of_ble_eq_true rfl) (Nat.le_of_ble_eq_true rfl) (hq_x (c := 2) (by unfold st_measure; exact (hq_el (fun q => q hk2) (hq_if hw ⟨rfl, rfl⟩))) ⟨by decide, rfl⟩ rfl) (Nat.le_of_ble_eq_true rfl) (Nat.le_of_ble_eq_true rfl)

theorem m_X5_measure (l : Launch) (hst : l.stackTraces = false) (Z : hw_Z) (M : hw_M) (ad : hp_ad) (S : hs_S) (T : hp_T) (b1 : Nat → Prop) (ka : Int32) (kw : Int32) (hP : hp_ok Z b1 M ad S T) (hB : hs_b S) : vx_Met l yX5_measure (hw_m yX5_measure cX5_measure 4 (some .double)) ({ frames := 9, cells := 6, slots := 36, locals := 190 } : Room) (va_Pc [.ref (ad 0 0), .int ka, .int kw] (hw_P Z M)) (hw_Qd Z (hq_N M S (st_measure S ka kw))) (hw_X Z (hq_X ["java/lang/IndexOutOfBoundsException", "java/lang/IllegalArgumentException"] M S (st_measure S ka kw))) 6 36 (hw_A Z) := by
  by_cases hw : hb_ok kw 2
  · obtain ⟨j, hj, rfl⟩ := hb_okj (by decide) hw
    rcases (show j = 0 ∨ j = 1 by omega) with rfl | rfl
    · exact m_X5_measure_0 l hst Z M ad S T b1 ka hP hB
    · exact m_X5_measure_1 l hst Z M ad S T b1 ka hP hB
  · exact m_X5_measure_o l hst Z M ad S T b1 ka kw hP hB hw

theorem m_X5_measure_k (l : Launch) (Z : hw_Z) (M : hw_M) (ad : hp_ad) (S : hs_S) (T : hp_T) (b1 : Nat → Prop) (i : Nat) (w : Nat) (hP : hp_ok Z b1 M ad S T) (hB : hs_b S) (hi : i < hs_np S) (hw : w < 2) : Met l yX5_measure (hw_m yX5_measure cX5_measure 4 (some .double)) ({ frames := 9, cells := 0, slots := 0, locals := 190 } : Room) (va_Pc [.ref (ad 0 0), .int (nI i), .int (nI w)] (hw_P Z M)) (hw_Qd Z (fun r M' => hs_me S i w = r ∧ M = M')) 0 0 (hw_A Z) := by
  rcases (show w = 0 ∨ w = 1 by omega) with rfl | rfl
  · exact m_X5_measure_k0 l Z M ad S T b1 i hP hB hi
  · exact m_X5_measure_k1 l Z M ad S T b1 i hP hB hi
