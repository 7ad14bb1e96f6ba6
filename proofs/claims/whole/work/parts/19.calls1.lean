theorem fp_X5_46 : hw_FP RX5 46 6 3 (.int) false := ⟨RX5, TX5, 9, "MeltPool", tyX5, rfl, by decide, iw_X5, (hw_win (w := .fieldLink RX5 46 "MeltPool" (TX5 3).2.1 (TX5 3).2.2.1) (by decide +kernel) (by decide +kernel)), Or.inl rfl, tyX5_ok, nmX5, rfl, (fun h => by cases h), by decide +kernel⟩
theorem th_X5_50_52_54 : hw_TH RX5 50 52 54 "java/lang/IllegalStateException" "there are 4 pieces" := ⟨by decide +kernel, (hw_win (w := .classLink RX5 50 "java/lang/IllegalStateException") (by decide +kernel) (by decide +kernel)), (hw_win (w := .initialized "java/lang/IllegalStateException") (by decide +kernel) (by decide +kernel)), by decide +kernel, (fun w h => hw_win ((by decide +kernel : ∀ w ∈ (vx_atS RX5 54 "java/lang/IllegalStateException" ["java/lang/RuntimeException", "java/lang/Exception"]).filter goodWord, w ∈ lw_tbl) w h) ((List.mem_filter.mp h).2)), by decide +kernel, by decide +kernel, by decide +kernel⟩
theorem cb_X5_pieceAt (own : String) (index : Nat) : hw_CB own index yX5_pieceAt cX5_pieceAt 2 (some (.object "MeltPool$Piece")) 1 := ⟨⟨by decide +kernel, by decide +kernel, by decide +kernel⟩, (hw_win (w := .code yX5_pieceAt cX5_pieceAt 2 (some (.object "MeltPool$Piece"))) (by decide +kernel) (by decide +kernel)), (hw_win (w := .initialized yX5_pieceAt.cls) (by decide +kernel) (by decide +kernel))⟩
theorem cv_X5_57 : hw_CV RX5 57 yX5_pieceAt cX5_pieceAt 2 (some (.object "MeltPool$Piece")) 1 := ⟨cb_X5_pieceAt _ _, (hw_win (w := .methodLink RX5 57 yX5_pieceAt) (by decide +kernel) (by decide +kernel)), (hw_win (w := .instanceMethod yX5_pieceAt) (by decide +kernel) (by decide +kernel)), (hw_win (w := .selects yX5_pieceAt.cls yX5_pieceAt yX5_pieceAt) (by decide +kernel) (by decide +kernel))⟩
theorem cb_X5_checkLayer (own : String) (index : Nat) : hw_CB own index yX5_checkLayer cX5_checkLayer 1 none 1 := ⟨⟨by decide +kernel, by decide +kernel, by decide +kernel⟩, (hw_win (w := .code yX5_checkLayer cX5_checkLayer 1 none) (by decide +kernel) (by decide +kernel)), (hw_win (w := .initialized yX5_checkLayer.cls) (by decide +kernel) (by decide +kernel))⟩
theorem cs_X5_61 : hw_CS RX5 61 yX5_checkLayer cX5_checkLayer 1 none 1 := ⟨cb_X5_checkLayer _ _, (hw_win (w := .methodLink RX5 61 yX5_checkLayer) (by decide +kernel) (by decide +kernel)), (hw_win (w := .static yX5_checkLayer) (by decide +kernel) (by decide +kernel))⟩
theorem cb_X5_checkSolid (own : String) (index : Nat) : hw_CB own index yX5_checkSolid cX5_checkSolid 1 none 1 := ⟨⟨by decide +kernel, by decide +kernel, by decide +kernel⟩, (hw_win (w := .code yX5_checkSolid cX5_checkSolid 1 none) (by decide +kernel) (by decide +kernel)), (hw_win (w := .initialized yX5_checkSolid.cls) (by decide +kernel) (by decide +kernel))⟩
theorem cs_X5_64 : hw_CS RX5 64 yX5_checkSolid cX5_checkSolid 1 none 1 := ⟨cb_X5_checkSolid _ _, (hw_win (w := .methodLink RX5 64 yX5_checkSolid) (by decide +kernel) (by decide +kernel)), (hw_win (w := .static yX5_checkSolid) (by decide +kernel) (by decide +kernel))⟩
theorem fd_X5_68 : hw_FD RX5 68 3 1 := ⟨RX2, TX2, 13, "MeltPool$Piece", rfl, by decide, iw_X2, (hw_win (w := .fieldLink RX5 68 "MeltPool$Piece" (TX2 1).2.1 (TX2 1).2.2.1) (by decide +kernel) (by decide +kernel)), Or.inl rfl⟩
theorem cb_X4_tell (own : String) (index : Nat) : hw_CB own index yX4_tell cX4_tell 4 none 2 := ⟨⟨by decide +kernel, by decide +kernel, by decide +kernel⟩, (hw_win (w := .code yX4_tell cX4_tell 4 none) (by decide +kernel) (by decide +kernel)), (hw_win (w := .initialized yX4_tell.cls) (by decide +kernel) (by decide +kernel))⟩
theorem cv_X5_71 : hw_CV RX5 71 yX4_tell cX4_tell 4 none 2 := ⟨cb_X4_tell _ _, (hw_win (w := .methodLink RX5 71 yX4_tell) (by decide +kernel) (by decide +kernel)), (hw_win (w := .instanceMethod yX4_tell) (by decide +kernel) (by decide +kernel)), (hw_win (w := .selects yX4_tell.cls yX4_tell yX4_tell) (by decide +kernel) (by decide +kernel))⟩
theorem cs_X5_75 : hw_CS RX5 75 yJ13_bitCount_95d88 cJ13_bitCount_95d88 2 (some .int) 1 := ⟨cb_J13_bitCount_95d88 _ _, (hw_win (w := .methodLink RX5 75 yJ13_bitCount_95d88) (by decide +kernel) (by decide +kernel)), (hw_win (w := .static yJ13_bitCount_95d88) (by decide +kernel) (by decide +kernel))⟩
theorem cb_X5_checkWay (own : String) (index : Nat) : hw_CB own index yX5_checkWay cX5_checkWay 1 none 1 := ⟨⟨by decide +kernel, by decide +kernel, by decide +kernel⟩, (hw_win (w := .code yX5_checkWay cX5_checkWay 1 none) (by decide +kernel) (by decide +kernel)), (hw_win (w := .initialized yX5_checkWay.cls) (by decide +kernel) (by decide +kernel))⟩
theorem cs_X5_81 : hw_CS RX5 81 yX5_checkWay cX5_checkWay 1 none 1 := ⟨cb_X5_checkWay _ _, (hw_win (w := .methodLink RX5 81 yX5_checkWay) (by decide +kernel) (by decide +kernel)), (hw_win (w := .static yX5_checkWay) (by decide +kernel) (by decide +kernel))⟩
theorem fd_X5_30 : hw_FD RX5 30 6 7 := ⟨RX5, TX5, 9, "MeltPool", rfl, by decide, iw_X5, (hw_win (w := .fieldLink RX5 30 "MeltPool" (TX5 7).2.1 (TX5 7).2.2.1) (by decide +kernel) (by decide +kernel)), Or.inl rfl⟩
theorem cb_X4_becomeLaid (own : String) (index : Nat) : hw_CB own index yX4_becomeLaid cX4_becomeLaid 7 none 2 := ⟨⟨by decide +kernel, by decide +kernel, by decide +kernel⟩, (hw_win (w := .code yX4_becomeLaid cX4_becomeLaid 7 none) (by decide +kernel) (by decide +kernel)), (hw_win (w := .initialized yX4_becomeLaid.cls) (by decide +kernel) (by decide +kernel))⟩
theorem cv_X5_84 : hw_CV RX5 84 yX4_becomeLaid cX4_becomeLaid 7 none 2 := ⟨cb_X4_becomeLaid _ _, (hw_win (w := .methodLink RX5 84 yX4_becomeLaid) (by decide +kernel) (by decide +kernel)), (hw_win (w := .instanceMethod yX4_becomeLaid) (by decide +kernel) (by decide +kernel)), (hw_win (w := .selects yX4_becomeLaid.cls yX4_becomeLaid yX4_becomeLaid) (by decide +kernel) (by decide +kernel))⟩
theorem cb_X4_becomeCopy (own : String) (index : Nat) : hw_CB own index yX4_becomeCopy cX4_becomeCopy 2 none 1 := ⟨⟨by decide +kernel, by decide +kernel, by decide +kernel⟩, (hw_win (w := .code yX4_becomeCopy cX4_becomeCopy 2 none) (by decide +kernel) (by decide +kernel)), (hw_win (w := .initialized yX4_becomeCopy.cls) (by decide +kernel) (by decide +kernel))⟩
theorem cv_X5_88 : hw_CV RX5 88 yX4_becomeCopy cX4_becomeCopy 2 none 1 := ⟨cb_X4_becomeCopy _ _, (hw_win (w := .methodLink RX5 88 yX4_becomeCopy) (by decide +kernel) (by decide +kernel)), (hw_win (w := .instanceMethod yX4_becomeCopy) (by decide +kernel) (by decide +kernel)), (hw_win (w := .selects yX4_becomeCopy.cls yX4_becomeCopy yX4_becomeCopy) (by decide +kernel) (by decide +kernel))⟩
theorem cb_X4_height (own : String) (index : Nat) : hw_CB own index yX4_height cX4_height 2 (some .int) 0 := ⟨⟨by decide +kernel, by decide +kernel, by decide +kernel⟩, (hw_win (w := .code yX4_height cX4_height 2 (some .int)) (by decide +kernel) (by decide +kernel)), (hw_win (w := .initialized yX4_height.cls) (by decide +kernel) (by decide +kernel))⟩
theorem cv_X5_92 : hw_CV RX5 92 yX4_height cX4_height 2 (some .int) 0 := ⟨cb_X4_height _ _, (hw_win (w := .methodLink RX5 92 yX4_height) (by decide +kernel) (by decide +kernel)), (hw_win (w := .instanceMethod yX4_height) (by decide +kernel) (by decide +kernel)), (hw_win (w := .selects yX4_height.cls yX4_height yX4_height) (by decide +kernel) (by decide +kernel))⟩
theorem th_X5_96_98_100 : hw_TH RX5 96 98 100 "java/lang/IllegalArgumentException" "no such alloy" := ⟨by decide +kernel, (hw_win (w := .classLink RX5 96 "java/lang/IllegalArgumentException") (by decide +kernel) (by decide +kernel)), (hw_win (w := .initialized "java/lang/IllegalArgumentException") (by decide +kernel) (by decide +kernel)), by decide +kernel, (fun w h => hw_win ((by decide +kernel : ∀ w ∈ (vx_atS RX5 100 "java/lang/IllegalArgumentException" ["java/lang/RuntimeException", "java/lang/Exception"]).filter goodWord, w ∈ lw_tbl) w h) ((List.mem_filter.mp h).2)), by decide +kernel, by decide +kernel, by decide +kernel⟩
theorem th_X5_96_101_100 : hw_TH RX5 96 101 100 "java/lang/IllegalArgumentException" "grams are not 1 to 2000" := ⟨by decide +kernel, (hw_win (w := .classLink RX5 96 "java/lang/IllegalArgumentException") (by decide +kernel) (by decide +kernel)), (hw_win (w := .initialized "java/lang/IllegalArgumentException") (by decide +kernel) (by decide +kernel)), by decide +kernel, (fun w h => hw_win ((by decide +kernel : ∀ w ∈ (vx_atS RX5 100 "java/lang/IllegalArgumentException" ["java/lang/RuntimeException", "java/lang/Exception"]).filter goodWord, w ∈ lw_tbl) w h) ((List.mem_filter.mp h).2)), by decide +kernel, by decide +kernel, by decide +kernel⟩
theorem fp_X5_108 : hw_FP RX5 108 4 1 (.int) false := ⟨RX3, TX3, 6, "MeltPool$Powder", tyX3, rfl, by decide, iw_X3, (hw_win (w := .fieldLink RX5 108 "MeltPool$Powder" (TX3 1).2.1 (TX3 1).2.2.1) (by decide +kernel) (by decide +kernel)), Or.inl rfl, tyX3_ok, nmX3, rfl, (fun h => by cases h), by decide +kernel⟩
theorem fp_X5_111 : hw_FP RX5 111 4 2 (.int) false := ⟨RX3, TX3, 6, "MeltPool$Powder", tyX3, rfl, by decide, iw_X3, (hw_win (w := .fieldLink RX5 111 "MeltPool$Powder" (TX3 2).2.1 (TX3 2).2.2.1) (by decide +kernel) (by decide +kernel)), Or.inl rfl, tyX3_ok, nmX3, rfl, (fun h => by cases h), by decide +kernel⟩
theorem fp_X5_103 : hw_FP RX5 103 6 4 (.int) false := ⟨RX5, TX5, 9, "MeltPool", tyX5, rfl, by decide, iw_X5, (hw_win (w := .fieldLink RX5 103 "MeltPool" (TX5 4).2.1 (TX5 4).2.2.1) (by decide +kernel) (by decide +kernel)), Or.inl rfl, tyX5_ok, nmX5, rfl, (fun h => by cases h), by decide +kernel⟩
theorem fd_X5_114 : hw_FD RX5 114 4 0 := ⟨RX3, TX3, 6, "MeltPool$Powder", rfl, by decide, iw_X3, (hw_win (w := .fieldLink RX5 114 "MeltPool$Powder" (TX3 0).2.1 (TX3 0).2.2.1) (by decide +kernel) (by decide +kernel)), Or.inl rfl⟩
theorem th_X5_50_106_54 : hw_TH RX5 50 106 54 "java/lang/IllegalStateException" "there are 6 powders" := ⟨by decide +kernel, (hw_win (w := .classLink RX5 50 "java/lang/IllegalStateException") (by decide +kernel) (by decide +kernel)), (hw_win (w := .initialized "java/lang/IllegalStateException") (by decide +kernel) (by decide +kernel)), by decide +kernel, (fun w h => hw_win ((by decide +kernel : ∀ w ∈ (vx_atS RX5 54 "java/lang/IllegalStateException" ["java/lang/RuntimeException", "java/lang/Exception"]).filter goodWord, w ∈ lw_tbl) w h) ((List.mem_filter.mp h).2)), by decide +kernel, by decide +kernel, by decide +kernel⟩
theorem cb_X5_powderAt (own : String) (index : Nat) : hw_CB own index yX5_powderAt cX5_powderAt 2 (some (.object "MeltPool$Powder")) 1 := ⟨⟨by decide +kernel, by decide +kernel, by decide +kernel⟩, (hw_win (w := .code yX5_powderAt cX5_powderAt 2 (some (.object "MeltPool$Powder"))) (by decide +kernel) (by decide +kernel)), (hw_win (w := .initialized yX5_powderAt.cls) (by decide +kernel) (by decide +kernel))⟩
theorem cv_X5_117 : hw_CV RX5 117 yX5_powderAt cX5_powderAt 2 (some (.object "MeltPool$Powder")) 1 := ⟨cb_X5_powderAt _ _, (hw_win (w := .methodLink RX5 117 yX5_powderAt) (by decide +kernel) (by decide +kernel)), (hw_win (w := .instanceMethod yX5_powderAt) (by decide +kernel) (by decide +kernel)), (hw_win (w := .selects yX5_powderAt.cls yX5_powderAt yX5_powderAt) (by decide +kernel) (by decide +kernel))⟩
theorem fd_X5_108 : hw_FD RX5 108 4 1 := ⟨RX3, TX3, 6, "MeltPool$Powder", rfl, by decide, iw_X3, (hw_win (w := .fieldLink RX5 108 "MeltPool$Powder" (TX3 1).2.1 (TX3 1).2.2.1) (by decide +kernel) (by decide +kernel)), Or.inl rfl⟩
theorem fd_X5_125 : hw_FD RX5 125 4 5 := ⟨RX3, TX3, 6, "MeltPool$Powder", rfl, by decide, iw_X3, (hw_win (w := .fieldLink RX5 125 "MeltPool$Powder" (TX3 5).2.1 (TX3 5).2.2.1) (by decide +kernel) (by decide +kernel)), Or.inl rfl⟩
theorem th_X5_50_128_54 : hw_TH RX5 50 128 54 "java/lang/IllegalStateException" "a powder is in a machine" := ⟨by decide +kernel, (hw_win (w := .classLink RX5 50 "java/lang/IllegalStateException") (by decide +kernel) (by decide +kernel)), (hw_win (w := .initialized "java/lang/IllegalStateException") (by decide +kernel) (by decide +kernel)), by decide +kernel, (fun w h => hw_win ((by decide +kernel : ∀ w ∈ (vx_atS RX5 54 "java/lang/IllegalStateException" ["java/lang/RuntimeException", "java/lang/Exception"]).filter goodWord, w ∈ lw_tbl) w h) ((List.mem_filter.mp h).2)), by decide +kernel, by decide +kernel, by decide +kernel⟩
theorem cb_X3_takeIn (own : String) (index : Nat) : hw_CB own index yX3_takeIn cX3_takeIn 2 none 1 := ⟨⟨by decide +kernel, by decide +kernel, by decide +kernel⟩, (hw_win (w := .code yX3_takeIn cX3_takeIn 2 none) (by decide +kernel) (by decide +kernel)), (hw_win (w := .initialized yX3_takeIn.cls) (by decide +kernel) (by decide +kernel))⟩
theorem cv_X5_130 : hw_CV RX5 130 yX3_takeIn cX3_takeIn 2 none 1 := ⟨cb_X3_takeIn _ _, (hw_win (w := .methodLink RX5 130 yX3_takeIn) (by decide +kernel) (by decide +kernel)), (hw_win (w := .instanceMethod yX3_takeIn) (by decide +kernel) (by decide +kernel)), (hw_win (w := .selects yX3_takeIn.cls yX3_takeIn yX3_takeIn) (by decide +kernel) (by decide +kernel))⟩
theorem fd_X5_111 : hw_FD RX5 111 4 2 := ⟨RX3, TX3, 6, "MeltPool$Powder", rfl, by decide, iw_X3, (hw_win (w := .fieldLink RX5 111 "MeltPool$Powder" (TX3 2).2.1 (TX3 2).2.2.1) (by decide +kernel) (by decide +kernel)), Or.inl rfl⟩
theorem th_X5_96_123_100 : hw_TH RX5 96 123 100 "java/lang/IllegalArgumentException" "the alloys differ" := ⟨by decide +kernel, (hw_win (w := .classLink RX5 96 "java/lang/IllegalArgumentException") (by decide +kernel) (by decide +kernel)), (hw_win (w := .initialized "java/lang/IllegalArgumentException") (by decide +kernel) (by decide +kernel)), by decide +kernel, (fun w h => hw_win ((by decide +kernel : ∀ w ∈ (vx_atS RX5 100 "java/lang/IllegalArgumentException" ["java/lang/RuntimeException", "java/lang/Exception"]).filter goodWord, w ∈ lw_tbl) w h) ((List.mem_filter.mp h).2)), by decide +kernel, by decide +kernel, by decide +kernel⟩
theorem th_X5_96_121_100 : hw_TH RX5 96 121 100 "java/lang/IllegalArgumentException" "both are the same powder" := ⟨by decide +kernel, (hw_win (w := .classLink RX5 96 "java/lang/IllegalArgumentException") (by decide +kernel) (by decide +kernel)), (hw_win (w := .initialized "java/lang/IllegalArgumentException") (by decide +kernel) (by decide +kernel)), by decide +kernel, (fun w h => hw_win ((by decide +kernel : ∀ w ∈ (vx_atS RX5 100 "java/lang/IllegalArgumentException" ["java/lang/RuntimeException", "java/lang/Exception"]).filter goodWord, w ∈ lw_tbl) w h) ((List.mem_filter.mp h).2)), by decide +kernel, by decide +kernel, by decide +kernel⟩
theorem cb_X4_supportCount (own : String) (index : Nat) : hw_CB own index yX4_supportCount cX4_supportCount 1 (some .int) 0 := ⟨⟨by decide +kernel, by decide +kernel, by decide +kernel⟩, (hw_win (w := .code yX4_supportCount cX4_supportCount 1 (some .int)) (by decide +kernel) (by decide +kernel)), (hw_win (w := .initialized yX4_supportCount.cls) (by decide +kernel) (by decide +kernel))⟩
theorem cv_X5_264 : hw_CV RX5 264 yX4_supportCount cX4_supportCount 1 (some .int) 0 := ⟨cb_X4_supportCount _ _, (hw_win (w := .methodLink RX5 264 yX4_supportCount) (by decide +kernel) (by decide +kernel)), (hw_win (w := .instanceMethod yX4_supportCount) (by decide +kernel) (by decide +kernel)), (hw_win (w := .selects yX4_supportCount.cls yX4_supportCount yX4_supportCount) (by decide +kernel) (by decide +kernel))⟩
theorem fp_X5_171 : hw_FP RX5 171 3 3 (.int) false := ⟨RX2, TX2, 13, "MeltPool$Piece", tyX2, rfl, by decide, iw_X2, (hw_win (w := .fieldLink RX5 171 "MeltPool$Piece" (TX2 3).2.1 (TX2 3).2.2.1) (by decide +kernel) (by decide +kernel)), Or.inl rfl, tyX2_ok, nmX2, rfl, (fun h => by cases h), by decide +kernel⟩
theorem fd_X5_198 : hw_FD RX5 198 3 2 := ⟨RX2, TX2, 13, "MeltPool$Piece", rfl, by decide, iw_X2, (hw_win (w := .fieldLink RX5 198 "MeltPool$Piece" (TX2 2).2.1 (TX2 2).2.2.1) (by decide +kernel) (by decide +kernel)), Or.inl rfl⟩
theorem fd_X5_229 : hw_FD RX5 229 2 1 := ⟨RX1, TX1, 3, "MeltPool$Melt", rfl, by decide, iw_X1, (hw_win (w := .fieldLink RX5 229 "MeltPool$Melt" (TX1 1).2.1 (TX1 1).2.2.1) (by decide +kernel) (by decide +kernel)), Or.inl rfl⟩
theorem th_X5_50_227_54 : hw_TH RX5 50 227 54 "java/lang/IllegalStateException" "the piece is not grown" := ⟨by decide +kernel, (hw_win (w := .classLink RX5 50 "java/lang/IllegalStateException") (by decide +kernel) (by decide +kernel)), (hw_win (w := .initialized "java/lang/IllegalStateException") (by decide +kernel) (by decide +kernel)), by decide +kernel, (fun w h => hw_win ((by decide +kernel : ∀ w ∈ (vx_atS RX5 54 "java/lang/IllegalStateException" ["java/lang/RuntimeException", "java/lang/Exception"]).filter goodWord, w ∈ lw_tbl) w h) ((List.mem_filter.mp h).2)), by decide +kernel, by decide +kernel, by decide +kernel⟩
theorem th_X5_50_232_54 : hw_TH RX5 50 232 54 "java/lang/IllegalStateException" "the piece is not grown or relieved" := ⟨by decide +kernel, (hw_win (w := .classLink RX5 50 "java/lang/IllegalStateException") (by decide +kernel) (by decide +kernel)), (hw_win (w := .initialized "java/lang/IllegalStateException") (by decide +kernel) (by decide +kernel)), by decide +kernel, (fun w h => hw_win ((by decide +kernel : ∀ w ∈ (vx_atS RX5 54 "java/lang/IllegalStateException" ["java/lang/RuntimeException", "java/lang/Exception"]).filter goodWord, w ∈ lw_tbl) w h) ((List.mem_filter.mp h).2)), by decide +kernel, by decide +kernel, by decide +kernel⟩
theorem fp_X5_229 : hw_FP RX5 229 2 1 (.int) false := ⟨RX1, TX1, 3, "MeltPool$Melt", tyX1, rfl, by decide, iw_X1, (hw_win (w := .fieldLink RX5 229 "MeltPool$Melt" (TX1 1).2.1 (TX1 1).2.2.1) (by decide +kernel) (by decide +kernel)), Or.inl rfl, tyX1_ok, nmX1, rfl, (fun h => by cases h), by decide +kernel⟩
theorem th_X5_50_234_54 : hw_TH RX5 50 234 54 "java/lang/IllegalStateException" "the piece is not relieved or sawn" := ⟨by decide +kernel, (hw_win (w := .classLink RX5 50 "java/lang/IllegalStateException") (by decide +kernel) (by decide +kernel)), (hw_win (w := .initialized "java/lang/IllegalStateException") (by decide +kernel) (by decide +kernel)), by decide +kernel, (fun w h => hw_win ((by decide +kernel : ∀ w ∈ (vx_atS RX5 54 "java/lang/IllegalStateException" ["java/lang/RuntimeException", "java/lang/Exception"]).filter goodWord, w ∈ lw_tbl) w h) ((List.mem_filter.mp h).2)), by decide +kernel, by decide +kernel, by decide +kernel⟩
set_option maxHeartbeats 4000000 in
set_option maxRecDepth 100000 in
theorem m_X5_piece (l : Launch) (hst : l.stackTraces = false) (Z : hw_Z) (M : hw_M) (ad : hp_ad) (S : hs_S) (T : hp_T) (b1 : Nat → Prop) (hP : hp_ok Z b1 M ad S T) (hB : hs_b S) : vx_Met l yX5_piece (hw_m yX5_piece cX5_piece 1 (some .int)) ({ frames := 9, cells := 6, slots := 36, locals := 190 } : Room) (va_Pc [.ref (ad 0 0)] (hw_P Z M)) (hw_Qi Z (hq_R Z b1 M ad (st_piece S))) (hw_X Z (hq_X ["java/lang/IllegalStateException"] M S (st_piece S))) 6 36 (hw_A Z) := by
  refine hw_xofi hst (by decide +kernel) rfl (Nat.le_of_ble_eq_true rfl) ?_
  intro p e s m below meth c ls Q hx hb hml hown hts hk hnm hI hl hret hxo hthr hthrW
  have hnp := hB.np
  have hnw := hB.nw
  have e0_0hP : M (ad 0 0) = hw_ob 6 [.ref (ad 0 1), .ref (ad 0 2), .ref (ad 0 3), .int (nI (hs_np S)), .int (nI (hs_nw S)), .int (hs_G S 0), .int (hs_G S 1), .ref (ad 0 4), .ref (ad 0 8)] := hP.m 0 0 (by decide)
  refine lv_aload_n hx hb dX5_piece_0 rfl (lv_at hl 0 rfl) ?_
  refine hw_get hx hb hts hown hk hI fd_X5_46 e0_0hP rfl dX5_piece_1 ?_
  refine lv_iconst (v := nI 4) hx hb dX5_piece_4 (by decide) ?_
  refine lv_icmp_lt (tgt := 18) hx hb dX5_piece_5 (by decide) (fun c5 => ?_) (fun c5 => ?_)
  · refine lv_aload_n hx hb dX5_piece_18 rfl (lv_at hl 0 rfl) ?_
    refine lv_dup hx hb dX5_piece_19 rfl ?_
    refine hw_get hx hb hts hown hk hI fd_X5_46 e0_0hP rfl dX5_piece_20 ?_
    refine lv_iconst (v := nI 1) hx hb dX5_piece_23 (by decide) ?_
    refine lv_iadd hx hb dX5_piece_24 ?_
    refine hw_ti (nI_add _ _) ?_
    refine hw_put (fs' := [.ref (ad 0 1), .ref (ad 0 2), .ref (ad 0 3), .int (nI ((hs_np S) + 1)), .int (nI (hs_nw S)), .int (hs_G S 0), .int (hs_G S 1), .ref (ad 0 4), .ref (ad 0 8)]) hx hb hts hown hk hI fp_X5_46 e0_0hP (Nat.le_of_ble_eq_true rfl) rfl rfl rfl dX5_piece_25 (fun H locs hI => ?_)
    refine lv_aload_n hx hb dX5_piece_28 rfl (lv_at hl 0 rfl) ?_
    refine hw_get hx hb hts hown hk hI fd_X5_46 (hw_us _ _ _) rfl dX5_piece_29 ?_
    refine lv_iconst (v := nI 1) hx hb dX5_piece_32 (by decide) ?_
    refine lv_isub hx hb dX5_piece_33 ?_
    refine hw_ti (pk_sub (a := hs_np S + 1) (b := 1) (by omega)) ?_
    have ok_hfin : hp_ok Z b1 (va_up M (ad 0 0) (hw_ob 6 [.ref (ad 0 1), .ref (ad 0 2), .ref (ad 0 3), .int (nI ((hs_np S) + 1)), .int (nI (hs_nw S)), .int (hs_G S 0), .int (hs_G S 1), .ref (ad 0 4), .ref (ad 0 8)])) ad (hs_sp S (hs_np S + 1)) (T) := by
      refine hP.fin (fun k i hi => ?_) hP.h0 hP.s7
      by_cases q0 : k = 0 ∧ i = 0
      · obtain ⟨rfl, qi⟩ := q0; obtain rfl := qi.symm
        rw [va_up_self]
        first | rfl | (simp only [hp_e, hp_e0, hp_hang0, va_up_self, ac_P_p, ac_D_p, ac_V_p, ac_M_p, ac_N_p, ac_Q_p, ac_C_p, ac_W_p, ac_U_p, ac_G_p, ac_np_p, ac_nw_p]; done) | (simp only [hp_e, hp_e0, hp_hang0, va_up_self, ac_P_p, ac_D_p, ac_V_p, ac_M_p, ac_N_p, ac_Q_p, ac_C_p, ac_W_p, ac_U_p, ac_G_p, ac_np_p, ac_nw_p]; rfl)
      rw [va_up_ne _ _ (hP.n (k := k) (i := i) (k' := 0) (i' := 0) hi (by decide) q0)]
      exact (hP.m k i hi).trans ((sm_p (k := k) (i := i) _ (by omega))).symm
    have fr_hfin : ∀ a, b1 a → (va_up M (ad 0 0) (hw_ob 6 [.ref (ad 0 1), .ref (ad 0 2), .ref (ad 0 3), .int (nI ((hs_np S) + 1)), .int (nI (hs_nw S)), .int (hs_G S 0), .int (hs_G S 1), .ref (ad 0 4), .ref (ad 0 8)])) a = M a := by
      intro a ha
      rw [va_up_ne _ _ (hP.f (k := 0) (i := 0) (by decide) ha)]
    have hfin : hq_R Z b1 M ad (st_piece S) (nI (hs_np S)) (va_up M (ad 0 0) (hw_ob 6 [.ref (ad 0 1), .ref (ad 0 2), .ref (ad 0 3), .int (nI ((hs_np S) + 1)), .int (nI (hs_nw S)), .int (hs_G S 0), .int (hs_G S 1), .ref (ad 0 4), .ref (ad 0 8)])) := hq_r (S' := hs_sp S (hs_np S + 1)) (T' := T) (by unfold st_piece; exact ((if_neg (fun q => absurd c5 (nI_nlt q (by omega)))).trans rfl)) ok_hfin fr_hfin
    exact hret hI hfin (Nat.le_of_ble_eq_true rfl) (Nat.le_of_ble_eq_true rfl) dX5_piece_34
  · exact hthr hI th_X5_50_52_54 hl.1 dX5_piece_8 dX5_piece_11 dX5_piece_12 dX5_piece_14 dX5_piece_17 (Nat.le_of_ble_eq_true rfl) (Nat.le_of_ble_eq_true rfl) (Nat.le_of_ble_eq_true rfl) (Nat.le_of_ble_eq_true rfl) (hq_x (c := 1) (by unfold st_piece; exact (hq_if (hq_ge (by omega) (by omega) c5) ⟨rfl, rfl⟩)) ⟨by decide, rfl⟩ rfl) (Nat.le_of_ble_eq_true rfl) (Nat.le_of_ble_eq_true rfl)

set_option maxHeartbeats 4000000 in
set_option maxRecDepth 100000 in
theorem m_X5_layer (l : Launch) (hst : l.stackTraces = false) (Z : hw_Z) (M : hw_M) (ad : hp_ad) (S : hs_S) (T : hp_T) (b1 : Nat → Prop) (ka : Int32) (kb : Int32) (x : Int64) (hP : hp_ok Z b1 M ad S T) (hB : hs_b S) : vx_Met l yX5_layer (hw_m yX5_layer cX5_layer 6 (some .int)) ({ frames := 9, cells := 6, slots := 36, locals := 190 } : Room) (va_Pc [.ref (ad 0 0), .int ka, .int kb, .long x] (hw_P Z M)) (hw_Qi Z (hq_R Z b1 M ad (st_layer S ka kb x))) (hw_X Z (hq_X ["java/lang/IndexOutOfBoundsException", "java/lang/IllegalStateException"] M S (st_layer S ka kb x))) 6 36 (hw_A Z) := by
  refine hw_xofi hst (by decide +kernel) rfl (Nat.le_of_ble_eq_true rfl) ?_
  intro p e s m below meth c ls Q hx hb hml hown hts hk hnm hI hl hret hxo hthr hthrW
  have hnp := hB.np
  have hnw := hB.nw
  have e0_0hP : M (ad 0 0) = hw_ob 6 [.ref (ad 0 1), .ref (ad 0 2), .ref (ad 0 3), .int (nI (hs_np S)), .int (nI (hs_nw S)), .int (hs_G S 0), .int (hs_G S 1), .ref (ad 0 4), .ref (ad 0 8)] := hP.m 0 0 (by decide)
  have e0_1hP : M (ad 0 1) = hw_ar Z 3 4 (fun j => some (ad 1 j)) := hP.m 0 1 (by decide)
  refine lv_aload_n hx hb dX5_layer_0 rfl (lv_at hl 0 rfl) ?_
  refine lv_iload_n hx hb dX5_layer_1 rfl (lv_at hl 1 rfl) ?_
  refine hw_xr hI hxo (hw_xV hx hb hml hown hts hk hI (m_X5_pieceAt l hst Z M (ad 0 0) (ad 0 1) (ad 0 2) (ad 0 3) (ad 0 4) (ad 0 8) (hs_np S) (hs_nw S) (hs_G S 0) (hs_G S 1) ka (ad 1) e0_0hP e0_1hP hnp) cv_X5_57 e0_0hP rfl rfl ⟨rfl, rfl⟩ ⟨(Nat.le_of_ble_eq_true rfl), (Nat.le_of_ble_eq_true rfl)⟩ rfl hl.1 rfl (Nat.le_of_ble_eq_true rfl) ⟨(Nat.le_of_ble_eq_true rfl), (Nat.le_of_ble_eq_true rfl)⟩ dX5_layer_2) (hq_xc (c := 1) (fun h => by unfold st_layer; exact (hq_if (fun q => h q.1) ⟨rfl, rfl⟩)) ⟨by decide, rfl⟩) (Nat.le_of_ble_eq_true rfl) (Nat.le_of_ble_eq_true rfl) (fun r2 M2 H locs hR hI => ?_)
  obtain ⟨⟨hk2, rfl⟩, rfl⟩ := hR
  have hx2 := hb_okx (by omega) hk2
  have hi2 : hb_ix ka < 4 := by have := hx2.1; omega
  have e1_hb_ix_kahP : M (ad 1 (hb_ix ka)) = hw_ob 3 [.int (nI (hb_ix ka)), .ref (ad 2 (hb_ix ka)), .ref (ad 6 (hb_ix ka)), .int (hs_P S (hb_ix ka) 0), .int (nI (hs_D S (hb_ix ka))), .double (hs_U S (hb_ix ka)), .int (hs_P S (hb_ix ka) 3), hp_ref (ad 9) (hs_P S (hb_ix ka) 4), .int (hs_P S (hb_ix ka) 5), .int (hs_P S (hb_ix ka) 6), .int (hs_P S (hb_ix ka) 7), .int (hs_P S (hb_ix ka) 8), .int (hs_P S (hb_ix ka) 9)] := hP.m 1 (hb_ix ka) hi2
  have e2_hb_ix_kahP : M (ad 2 (hb_ix ka)) = hw_ob 5 [.ref (ad 3 (hb_ix ka)), .ref (ad 4 (hb_ix ka)), .ref (ad 5 (hb_ix ka))] := hP.m 2 (hb_ix ka) hi2
  have e3_hb_ix_kahP : M (ad 3 (hb_ix ka)) = hw_al Z 8 (hs_C S (hb_ix ka)) := hP.m 3 (hb_ix ka) hi2
  have e4_hb_ix_kahP : M (ad 4 (hb_ix ka)) = hw_al Z 8 (hb_hang (hs_C S (hb_ix ka))) := hP.m 4 (hb_ix ka) hi2
  have e5_hb_ix_kahP : M (ad 5 (hb_ix ka)) = hw_al Z 8 (hb_supp (hs_C S (hb_ix ka))) := hP.m 5 (hb_ix ka) hi2
  refine lv_astore (lv' := [(5, .ref (ad 1 (hb_ix ka))), (0, .ref (ad 0 0)), (1, .int ka), (2, .int kb), (3, .long x)]) hx hb dX5_layer_5 hl (by decide) rfl (fun ls hl => ?_)
  refine lv_iload_n hx hb dX5_layer_7 rfl (lv_at hl 3 rfl) ?_
  refine hw_xv hI hxo (hw_xS hx hb hml hown hts hk hI (m_X5_checkLayer l hst Z M kb) cs_X5_61 ⟨rfl, rfl⟩ ⟨(Nat.le_of_ble_eq_true rfl), (Nat.le_of_ble_eq_true rfl)⟩ rfl hl.1 rfl (Nat.le_of_ble_eq_true rfl) ⟨(Nat.le_of_ble_eq_true rfl), (Nat.le_of_ble_eq_true rfl)⟩ dX5_layer_8) (hq_xc (c := 1) (fun h => by unfold st_layer; exact (hq_if (fun q => h q.2) ⟨rfl, rfl⟩)) ⟨by decide, rfl⟩) (Nat.le_of_ble_eq_true rfl) (Nat.le_of_ble_eq_true rfl) (fun M8 H locs hR hI => ?_)
  obtain ⟨hk8, rfl⟩ := hR
  have hx8 := hb_okx (by omega) hk8
  refine lv_aload hx hb dX5_layer_11 (lv_at hl 0 rfl) ?_
  refine hw_xv hI hxo (hw_xS hx hb hml hown hts hk hI (m_X5_checkSolid l hst Z M (ad 1 (hb_ix ka)) (ad 2 (hb_ix ka)) (ad 6 (hb_ix ka)) (nI (hb_ix ka)) (hs_P S (hb_ix ka) 0) (hs_P S (hb_ix ka) 3) (hs_P S (hb_ix ka) 5) (hs_P S (hb_ix ka) 6) (hs_P S (hb_ix ka) 7) (hs_P S (hb_ix ka) 8) (hs_P S (hb_ix ka) 9) (hs_U S (hb_ix ka)) (hs_D S (hb_ix ka)) (hp_ref (ad 9) (hs_P S (hb_ix ka) 4)) e1_hb_ix_kahP) cs_X5_64 ⟨rfl, rfl⟩ ⟨(Nat.le_of_ble_eq_true rfl), (Nat.le_of_ble_eq_true rfl)⟩ rfl hl.1 rfl (Nat.le_of_ble_eq_true rfl) ⟨(Nat.le_of_ble_eq_true rfl), (Nat.le_of_ble_eq_true rfl)⟩ dX5_layer_13) (hq_xc (c := 2) (fun h => by unfold st_layer; exact (hq_el (fun q => q ⟨hk2, hk8⟩) (hq_if h ⟨rfl, rfl⟩))) ⟨by decide, rfl⟩) (Nat.le_of_ble_eq_true rfl) (Nat.le_of_ble_eq_true rfl) (fun M13 H locs hR hI => ?_)
  obtain ⟨hk13, rfl⟩ := hR
  refine lv_aload hx hb dX5_layer_16 (lv_at hl 0 rfl) ?_
  refine hw_get hx hb hts hown hk hI fd_X5_68 e1_hb_ix_kahP rfl dX5_layer_18 ?_
  refine lv_iload_n hx hb dX5_layer_21 rfl (lv_at hl 3 rfl) ?_
  refine lv_lload_n hx hb dX5_layer_22 rfl (lv_at hl 4 rfl) ?_
  refine W.eq (g2 := F0 m 23 ls [.long x, .int (nI (hb_ix kb)), .ref (ad 2 (hb_ix ka))]) (congrArg (fun z => F0 m 23 ls [.long x, .int z, .ref (ad 2 (hb_ix ka))]) hx8.2) ?_
  refine hw_cv hI (hw_rV hx hb hml hown hts hk hI (m_X4_tell l Z M (ad 2 (hb_ix ka)) (ad 3 (hb_ix ka)) (ad 4 (hb_ix ka)) (ad 5 (hb_ix ka)) (hs_C S (hb_ix ka)) (hb_hang (hs_C S (hb_ix ka))) (hb_supp (hs_C S (hb_ix ka))) (hb_ix kb) x e2_hb_ix_kahP e3_hb_ix_kahP e4_hb_ix_kahP e5_hb_ix_kahP (hP.n (k := 3) (i := (hb_ix ka)) (k' := 4) (i' := (hb_ix ka)) hi2 hi2 (fun q => absurd q.1 (by decide))) (hP.n (k := 3) (i := (hb_ix ka)) (k' := 5) (i' := (hb_ix ka)) hi2 hi2 (fun q => absurd q.1 (by decide))) (hP.n (k := 4) (i := (hb_ix ka)) (k' := 5) (i' := (hb_ix ka)) hi2 hi2 (fun q => absurd q.1 (by decide))) rfl rfl hx8.1) cv_X5_71 e2_hb_ix_kahP rfl rfl ⟨rfl, rfl⟩ ⟨(Nat.le_of_ble_eq_true rfl), (Nat.le_of_ble_eq_true rfl)⟩ rfl hl.1 rfl (Nat.le_of_ble_eq_true rfl) ⟨(Nat.le_of_ble_eq_true rfl), (Nat.le_of_ble_eq_true rfl)⟩ dX5_layer_23) (fun M23 H locs hR hI => ?_)
  subst hR
  refine lv_lload_n hx hb dX5_layer_26 rfl (lv_at hl 4 rfl) ?_
  refine hw_ci hI (hw_rS hx hb hml hown hts hk hI (m_J13_bitCount_95d88 l Z (va_up (va_up (va_up M (ad 3 (hb_ix ka)) (hw_al Z 8 (va_up (hs_C S (hb_ix ka)) (hb_ix kb) x))) (ad 4 (hb_ix ka)) (hw_al Z 8 (hb_hang (va_up (hs_C S (hb_ix ka)) (hb_ix kb) x)))) (ad 5 (hb_ix ka)) (hw_al Z 8 (hb_supp (va_up (hs_C S (hb_ix ka)) (hb_ix kb) x)))) x) cs_X5_75 ⟨rfl, rfl⟩ ⟨(Nat.le_of_ble_eq_true rfl), (Nat.le_of_ble_eq_true rfl)⟩ rfl hl.1 rfl (Nat.le_of_ble_eq_true rfl) ⟨(Nat.le_of_ble_eq_true rfl), (Nat.le_of_ble_eq_true rfl)⟩ dX5_layer_27) (fun r27 M27 H locs hR hI => ?_)
  obtain ⟨rfl, rfl⟩ := hR
  have ok_hfin : hp_ok Z b1 (va_up (va_up (va_up M (ad 3 (hb_ix ka)) (hw_al Z 8 (va_up (hs_C S (hb_ix ka)) (hb_ix kb) x))) (ad 4 (hb_ix ka)) (hw_al Z 8 (hb_hang (va_up (hs_C S (hb_ix ka)) (hb_ix kb) x)))) (ad 5 (hb_ix ka)) (hw_al Z 8 (hb_supp (va_up (hs_C S (hb_ix ka)) (hb_ix kb) x)))) ad (hs_sC S (hb_ix ka) (va_up (hs_C S (hb_ix ka)) (hb_ix kb) x)) (T) := by
    refine hP.fin (fun k i hi => ?_) hP.h0 hP.s7
    by_cases q2 : k = 5 ∧ i = (hb_ix ka)
    · obtain ⟨rfl, qi⟩ := q2; obtain rfl := qi.symm
      rw [va_up_self]
      first | rfl | (simp only [hp_e, hp_e0, hp_hang0, va_up_self, ac_P_C, ac_D_C, ac_V_C, ac_M_C, ac_N_C, ac_Q_C, ac_C_C, ac_W_C, ac_U_C, ac_G_C, ac_np_C, ac_nw_C, hb_hang, hb_supp]; done) | (simp only [hp_e, hp_e0, hp_hang0, va_up_self, ac_P_C, ac_D_C, ac_V_C, ac_M_C, ac_N_C, ac_Q_C, ac_C_C, ac_W_C, ac_U_C, ac_G_C, ac_np_C, ac_nw_C, hb_hang, hb_supp]; rfl)
    by_cases q1 : k = 4 ∧ i = (hb_ix ka)
    · obtain ⟨rfl, qi⟩ := q1; obtain rfl := qi.symm
      rw [va_up_ne _ _ (hP.n (k := 4) (i := (hb_ix ka)) (k' := 5) (i' := (hb_ix ka)) hi2 hi2 (fun q => absurd q.1 (by decide))), va_up_self]
      first | rfl | (simp only [hp_e, hp_e0, hp_hang0, va_up_self, ac_P_C, ac_D_C, ac_V_C, ac_M_C, ac_N_C, ac_Q_C, ac_C_C, ac_W_C, ac_U_C, ac_G_C, ac_np_C, ac_nw_C, hb_hang, hb_supp]; done) | (simp only [hp_e, hp_e0, hp_hang0, va_up_self, ac_P_C, ac_D_C, ac_V_C, ac_M_C, ac_N_C, ac_Q_C, ac_C_C, ac_W_C, ac_U_C, ac_G_C, ac_np_C, ac_nw_C, hb_hang, hb_supp]; rfl)
    by_cases q0 : k = 3 ∧ i = (hb_ix ka)
    · obtain ⟨rfl, qi⟩ := q0; obtain rfl := qi.symm
      rw [va_up_ne _ _ (hP.n (k := 3) (i := (hb_ix ka)) (k' := 5) (i' := (hb_ix ka)) hi2 hi2 (fun q => absurd q.1 (by decide))), va_up_ne _ _ (hP.n (k := 3) (i := (hb_ix ka)) (k' := 4) (i' := (hb_ix ka)) hi2 hi2 (fun q => absurd q.1 (by decide))), va_up_self]
      first | rfl | (simp only [hp_e, hp_e0, hp_hang0, va_up_self, ac_P_C, ac_D_C, ac_V_C, ac_M_C, ac_N_C, ac_Q_C, ac_C_C, ac_W_C, ac_U_C, ac_G_C, ac_np_C, ac_nw_C, hb_hang, hb_supp]; done) | (simp only [hp_e, hp_e0, hp_hang0, va_up_self, ac_P_C, ac_D_C, ac_V_C, ac_M_C, ac_N_C, ac_Q_C, ac_C_C, ac_W_C, ac_U_C, ac_G_C, ac_np_C, ac_nw_C, hb_hang, hb_supp]; rfl)
    rw [va_up_ne _ _ (hP.n (k := k) (i := i) (k' := 5) (i' := (hb_ix ka)) hi hi2 q2), va_up_ne _ _ (hP.n (k := k) (i := i) (k' := 4) (i' := (hb_ix ka)) hi hi2 q1), va_up_ne _ _ (hP.n (k := k) (i := i) (k' := 3) (i' := (hb_ix ka)) hi hi2 q0)]
    exact (hP.m k i hi).trans ((sm_C (k := k) (i := i) _ _ (by omega))).symm
  have fr_hfin : ∀ a, b1 a → (va_up (va_up (va_up M (ad 3 (hb_ix ka)) (hw_al Z 8 (va_up (hs_C S (hb_ix ka)) (hb_ix kb) x))) (ad 4 (hb_ix ka)) (hw_al Z 8 (hb_hang (va_up (hs_C S (hb_ix ka)) (hb_ix kb) x)))) (ad 5 (hb_ix ka)) (hw_al Z 8 (hb_supp (va_up (hs_C S (hb_ix ka)) (hb_ix kb) x)))) a = M a := by
    intro a ha
    rw [va_up_ne _ _ (hP.f (k := 5) (i := (hb_ix ka)) hi2 ha), va_up_ne _ _ (hP.f (k := 4) (i := (hb_ix ka)) hi2 ha), va_up_ne _ _ (hP.f (k := 3) (i := (hb_ix ka)) hi2 ha)]
  have hfin : hq_R Z b1 M ad (st_layer S ka kb x) (nI (hb_pc x)) (va_up (va_up (va_up M (ad 3 (hb_ix ka)) (hw_al Z 8 (va_up (hs_C S (hb_ix ka)) (hb_ix kb) x))) (ad 4 (hb_ix ka)) (hw_al Z 8 (hb_hang (va_up (hs_C S (hb_ix ka)) (hb_ix kb) x)))) (ad 5 (hb_ix ka)) (hw_al Z 8 (hb_supp (va_up (hs_C S (hb_ix ka)) (hb_ix kb) x)))) := hq_r (S' := hs_sC S (hb_ix ka) (va_up (hs_C S (hb_ix ka)) (hb_ix kb) x)) (T' := T) (by unfold st_layer; exact ((if_neg (fun q => q ⟨hk2, hk8⟩)).trans ((if_neg (fun q => q hk13)).trans rfl))) ok_hfin fr_hfin
  exact hret hI hfin (Nat.le_of_ble_eq_true rfl) (Nat.le_of_ble_eq_true rfl) dX5_layer_30

set_option maxHeartbeats 4000000 in
set_option maxRecDepth 100000 in
theorem m_X5_lay (l : Launch) (hst : l.stackTraces = false) (Z : hw_Z) (M : hw_M) (ad : hp_ad) (S : hs_S) (T : hp_T) (b1 : Nat → Prop) (ka : Int32) (kw : Int32) (hP : hp_ok Z b1 M ad S T) (hB : hs_b S) : vx_Met l yX5_lay (hw_m yX5_lay cX5_lay 4 (some .int)) ({ frames := 9, cells := 6, slots := 36, locals := 190 } : Room) (va_Pc [.ref (ad 0 0), .int ka, .int kw] (hw_P Z M)) (hw_Qi Z (hq_R Z b1 M ad (st_lay S ka kw))) (hw_X Z (hq_X ["java/lang/IndexOutOfBoundsException", "java/lang/IllegalArgumentException", "java/lang/IllegalStateException"] M S (st_lay S ka kw))) 6 36 (hw_A Z) := by
  refine hw_xofi hst (by decide +kernel) rfl (Nat.le_of_ble_eq_true rfl) ?_
  intro p e s m below meth c ls Q hx hb hml hown hts hk hnm hI hl hret hxo hthr hthrW
  have hnp := hB.np
  have hnw := hB.nw
  have e0_0hP : M (ad 0 0) = hw_ob 6 [.ref (ad 0 1), .ref (ad 0 2), .ref (ad 0 3), .int (nI (hs_np S)), .int (nI (hs_nw S)), .int (hs_G S 0), .int (hs_G S 1), .ref (ad 0 4), .ref (ad 0 8)] := hP.m 0 0 (by decide)
  have e0_1hP : M (ad 0 1) = hw_ar Z 3 4 (fun j => some (ad 1 j)) := hP.m 0 1 (by decide)
  have e0_4hP : M (ad 0 4) = hw_ob 5 [.ref (ad 0 5), .ref (ad 0 6), .ref (ad 0 7)] := hP.m 0 4 (by decide)
  have e0_5hP : M (ad 0 5) = hw_al Z 8 T.1 := hP.m 0 5 (by decide)
  have e0_6hP : M (ad 0 6) = hw_al Z 8 T.2.1 := hP.m 0 6 (by decide)
  have e0_7hP : M (ad 0 7) = hw_al Z 8 T.2.2.1 := hP.m 0 7 (by decide)
  refine lv_aload_n hx hb dX5_lay_0 rfl (lv_at hl 0 rfl) ?_
  refine lv_iload_n hx hb dX5_lay_1 rfl (lv_at hl 1 rfl) ?_
  refine hw_xr hI hxo (hw_xV hx hb hml hown hts hk hI (m_X5_pieceAt l hst Z M (ad 0 0) (ad 0 1) (ad 0 2) (ad 0 3) (ad 0 4) (ad 0 8) (hs_np S) (hs_nw S) (hs_G S 0) (hs_G S 1) ka (ad 1) e0_0hP e0_1hP hnp) cv_X5_57 e0_0hP rfl rfl ⟨rfl, rfl⟩ ⟨(Nat.le_of_ble_eq_true rfl), (Nat.le_of_ble_eq_true rfl)⟩ rfl hl.1 rfl (Nat.le_of_ble_eq_true rfl) ⟨(Nat.le_of_ble_eq_true rfl), (Nat.le_of_ble_eq_true rfl)⟩ dX5_lay_2) (hq_xc (c := 1) (fun h => by unfold st_lay; exact (hq_if h ⟨rfl, rfl⟩)) ⟨by decide, rfl⟩) (Nat.le_of_ble_eq_true rfl) (Nat.le_of_ble_eq_true rfl) (fun r2 M2 H locs hR hI => ?_)
  obtain ⟨⟨hk2, rfl⟩, rfl⟩ := hR
  have hx2 := hb_okx (by omega) hk2
  have hi2 : hb_ix ka < 4 := by have := hx2.1; omega
  have e1_hb_ix_kahP : M (ad 1 (hb_ix ka)) = hw_ob 3 [.int (nI (hb_ix ka)), .ref (ad 2 (hb_ix ka)), .ref (ad 6 (hb_ix ka)), .int (hs_P S (hb_ix ka) 0), .int (nI (hs_D S (hb_ix ka))), .double (hs_U S (hb_ix ka)), .int (hs_P S (hb_ix ka) 3), hp_ref (ad 9) (hs_P S (hb_ix ka) 4), .int (hs_P S (hb_ix ka) 5), .int (hs_P S (hb_ix ka) 6), .int (hs_P S (hb_ix ka) 7), .int (hs_P S (hb_ix ka) 8), .int (hs_P S (hb_ix ka) 9)] := hP.m 1 (hb_ix ka) hi2
  have e2_hb_ix_kahP : M (ad 2 (hb_ix ka)) = hw_ob 5 [.ref (ad 3 (hb_ix ka)), .ref (ad 4 (hb_ix ka)), .ref (ad 5 (hb_ix ka))] := hP.m 2 (hb_ix ka) hi2
  have e3_hb_ix_kahP : M (ad 3 (hb_ix ka)) = hw_al Z 8 (hs_C S (hb_ix ka)) := hP.m 3 (hb_ix ka) hi2
  have e4_hb_ix_kahP : M (ad 4 (hb_ix ka)) = hw_al Z 8 (hb_hang (hs_C S (hb_ix ka))) := hP.m 4 (hb_ix ka) hi2
  have e5_hb_ix_kahP : M (ad 5 (hb_ix ka)) = hw_al Z 8 (hb_supp (hs_C S (hb_ix ka))) := hP.m 5 (hb_ix ka) hi2
  refine lv_astore_n (lv' := [(3, .ref (ad 1 (hb_ix ka))), (0, .ref (ad 0 0)), (1, .int ka), (2, .int kw)]) hx hb dX5_lay_5 rfl hl (by decide) rfl (fun ls hl => ?_)
  refine lv_iload_n hx hb dX5_lay_6 rfl (lv_at hl 3 rfl) ?_
  refine hw_xv hI hxo (hw_xS hx hb hml hown hts hk hI (m_X5_checkWay l hst Z M kw) cs_X5_81 ⟨rfl, rfl⟩ ⟨(Nat.le_of_ble_eq_true rfl), (Nat.le_of_ble_eq_true rfl)⟩ rfl hl.1 rfl (Nat.le_of_ble_eq_true rfl) ⟨(Nat.le_of_ble_eq_true rfl), (Nat.le_of_ble_eq_true rfl)⟩ dX5_lay_7) (hq_xc (c := 2) (fun h => by unfold st_lay; exact (hq_el (fun q => q hk2) (hq_if h ⟨rfl, rfl⟩))) ⟨by decide, rfl⟩) (Nat.le_of_ble_eq_true rfl) (Nat.le_of_ble_eq_true rfl) (fun M7 H locs hR hI => ?_)
  obtain ⟨hk7, rfl⟩ := hR
  have hx7 := hb_okx (by omega) hk7
  refine lv_aload_n hx hb dX5_lay_10 rfl (lv_at hl 0 rfl) ?_
  refine hw_xv hI hxo (hw_xS hx hb hml hown hts hk hI (m_X5_checkSolid l hst Z M (ad 1 (hb_ix ka)) (ad 2 (hb_ix ka)) (ad 6 (hb_ix ka)) (nI (hb_ix ka)) (hs_P S (hb_ix ka) 0) (hs_P S (hb_ix ka) 3) (hs_P S (hb_ix ka) 5) (hs_P S (hb_ix ka) 6) (hs_P S (hb_ix ka) 7) (hs_P S (hb_ix ka) 8) (hs_P S (hb_ix ka) 9) (hs_U S (hb_ix ka)) (hs_D S (hb_ix ka)) (hp_ref (ad 9) (hs_P S (hb_ix ka) 4)) e1_hb_ix_kahP) cs_X5_64 ⟨rfl, rfl⟩ ⟨(Nat.le_of_ble_eq_true rfl), (Nat.le_of_ble_eq_true rfl)⟩ rfl hl.1 rfl (Nat.le_of_ble_eq_true rfl) ⟨(Nat.le_of_ble_eq_true rfl), (Nat.le_of_ble_eq_true rfl)⟩ dX5_lay_11) (hq_xc (c := 3) (fun h => by unfold st_lay; exact (hq_el (fun q => q hk2) (hq_el (fun q => q hk7) (hq_if h ⟨rfl, rfl⟩)))) ⟨by decide, rfl⟩) (Nat.le_of_ble_eq_true rfl) (Nat.le_of_ble_eq_true rfl) (fun M11 H locs hR hI => ?_)
  obtain ⟨hk11, rfl⟩ := hR
  refine lv_aload_n hx hb dX5_lay_14 rfl (lv_at hl 1 rfl) ?_
  refine hw_get hx hb hts hown hk hI fd_X5_30 e0_0hP rfl dX5_lay_15 ?_
  refine lv_aload_n hx hb dX5_lay_18 rfl (lv_at hl 0 rfl) ?_
  refine hw_get hx hb hts hown hk hI fd_X5_68 e1_hb_ix_kahP rfl dX5_lay_19 ?_
  refine lv_iload_n hx hb dX5_lay_22 rfl (lv_at hl 3 rfl) ?_
  refine W.eq (g2 := F0 m 23 ls [.int (nI (hb_ix kw)), .ref (ad 2 (hb_ix ka)), .ref (ad 0 4)]) (congrArg (fun z => F0 m 23 ls [.int z, .ref (ad 2 (hb_ix ka)), .ref (ad 0 4)]) hx7.2) ?_
  refine hw_cv hI (hw_rV hx hb hml hown hts hk hI (m_X4_becomeLaid l Z M (ad 0 4) (ad 0 5) (ad 0 6) (ad 0 7) T.1 T.2.1 T.2.2.1 (ad 2 (hb_ix ka)) (ad 3 (hb_ix ka)) (ad 4 (hb_ix ka)) (ad 5 (hb_ix ka)) (hs_C S (hb_ix ka)) (hb_ix kw) e0_4hP e0_5hP e0_6hP e0_7hP e2_hb_ix_kahP e3_hb_ix_kahP (hP.n (k := 0) (i := 5) (k' := 0) (i' := 6) (by decide) (by decide) (by decide)) (hP.n (k := 0) (i := 5) (k' := 0) (i' := 7) (by decide) (by decide) (by decide)) (hP.n (k := 0) (i := 6) (k' := 0) (i' := 7) (by decide) (by decide) (by decide)) (hP.n (k := 3) (i := (hb_ix ka)) (k' := 0) (i' := 5) hi2 (by decide) (fun q => absurd q.1 (by decide))) (hP.n (k := 2) (i := (hb_ix ka)) (k' := 0) (i' := 4) hi2 (by decide) (fun q => absurd q.1 (by decide))) hP.h0 hP.s7 hx7.1) cv_X5_84 e0_4hP rfl rfl ⟨rfl, rfl⟩ ⟨(Nat.le_of_ble_eq_true rfl), (Nat.le_of_ble_eq_true rfl)⟩ rfl hl.1 rfl (Nat.le_of_ble_eq_true rfl) ⟨(Nat.le_of_ble_eq_true rfl), (Nat.le_of_ble_eq_true rfl)⟩ dX5_lay_23) (fun M23 H locs hR hI => ?_)
  subst hR
  refine lv_aload_n hx hb dX5_lay_26 rfl (lv_at hl 0 rfl) ?_
  refine hw_get hx hb hts hown hk hI fd_X5_68 (hw_up (hw_up (hw_up e1_hb_ix_kahP (hP.n (k := 1) (i := (hb_ix ka)) (k' := 0) (i' := 5) hi2 (by decide) (fun q => absurd q.1 (by decide)))) (hP.n (k := 1) (i := (hb_ix ka)) (k' := 0) (i' := 6) hi2 (by decide) (fun q => absurd q.1 (by decide)))) (hP.n (k := 1) (i := (hb_ix ka)) (k' := 0) (i' := 7) hi2 (by decide) (fun q => absurd q.1 (by decide)))) rfl dX5_lay_27 ?_
  refine lv_aload_n hx hb dX5_lay_30 rfl (lv_at hl 1 rfl) ?_
  refine hw_get hx hb hts hown hk hI fd_X5_30 (hw_up (hw_up (hw_up e0_0hP (hP.n (k := 0) (i := 0) (k' := 0) (i' := 5) (by decide) (by decide) (by decide))) (hP.n (k := 0) (i := 0) (k' := 0) (i' := 6) (by decide) (by decide) (by decide))) (hP.n (k := 0) (i := 0) (k' := 0) (i' := 7) (by decide) (by decide) (by decide))) rfl dX5_lay_31 ?_
  refine hw_cv hI (hw_rV hx hb hml hown hts hk hI (m_X4_becomeCopy l Z (va_up (va_up (va_up M (ad 0 5) (hw_al Z 8 (hb_laid (hs_C S (hb_ix ka)) (hb_ix kw)))) (ad 0 6) (hw_al Z 8 (hb_hang (hb_laid (hs_C S (hb_ix ka)) (hb_ix kw))))) (ad 0 7) (hw_al Z 8 (hb_supp (hb_laid (hs_C S (hb_ix ka)) (hb_ix kw))))) (ad 2 (hb_ix ka)) (ad 3 (hb_ix ka)) (ad 4 (hb_ix ka)) (ad 5 (hb_ix ka)) (hs_C S (hb_ix ka)) (hb_hang (hs_C S (hb_ix ka))) (hb_supp (hs_C S (hb_ix ka))) (ad 0 4) (ad 0 5) (ad 0 6) (ad 0 7) (hb_laid (hs_C S (hb_ix ka)) (hb_ix kw)) (hw_up (hw_up (hw_up e2_hb_ix_kahP (hP.n (k := 2) (i := (hb_ix ka)) (k' := 0) (i' := 5) hi2 (by decide) (fun q => absurd q.1 (by decide)))) (hP.n (k := 2) (i := (hb_ix ka)) (k' := 0) (i' := 6) hi2 (by decide) (fun q => absurd q.1 (by decide)))) (hP.n (k := 2) (i := (hb_ix ka)) (k' := 0) (i' := 7) hi2 (by decide) (fun q => absurd q.1 (by decide)))) (hw_up (hw_up (hw_up e3_hb_ix_kahP (hP.n (k := 3) (i := (hb_ix ka)) (k' := 0) (i' := 5) hi2 (by decide) (fun q => absurd q.1 (by decide)))) (hP.n (k := 3) (i := (hb_ix ka)) (k' := 0) (i' := 6) hi2 (by decide) (fun q => absurd q.1 (by decide)))) (hP.n (k := 3) (i := (hb_ix ka)) (k' := 0) (i' := 7) hi2 (by decide) (fun q => absurd q.1 (by decide)))) (hw_up (hw_up (hw_up e4_hb_ix_kahP (hP.n (k := 4) (i := (hb_ix ka)) (k' := 0) (i' := 5) hi2 (by decide) (fun q => absurd q.1 (by decide)))) (hP.n (k := 4) (i := (hb_ix ka)) (k' := 0) (i' := 6) hi2 (by decide) (fun q => absurd q.1 (by decide)))) (hP.n (k := 4) (i := (hb_ix ka)) (k' := 0) (i' := 7) hi2 (by decide) (fun q => absurd q.1 (by decide)))) (hw_up (hw_up (hw_up e5_hb_ix_kahP (hP.n (k := 5) (i := (hb_ix ka)) (k' := 0) (i' := 5) hi2 (by decide) (fun q => absurd q.1 (by decide)))) (hP.n (k := 5) (i := (hb_ix ka)) (k' := 0) (i' := 6) hi2 (by decide) (fun q => absurd q.1 (by decide)))) (hP.n (k := 5) (i := (hb_ix ka)) (k' := 0) (i' := 7) hi2 (by decide) (fun q => absurd q.1 (by decide)))) (hw_up (hw_up (hw_up e0_4hP (hP.n (k := 0) (i := 4) (k' := 0) (i' := 5) (by decide) (by decide) (by decide))) (hP.n (k := 0) (i := 4) (k' := 0) (i' := 6) (by decide) (by decide) (by decide))) (hP.n (k := 0) (i := 4) (k' := 0) (i' := 7) (by decide) (by decide) (by decide))) (hw_up (hw_up (hw_us _ _ _) (hP.n (k := 0) (i := 5) (k' := 0) (i' := 6) (by decide) (by decide) (by decide))) (hP.n (k := 0) (i := 5) (k' := 0) (i' := 7) (by decide) (by decide) (by decide))) (hP.n (k := 3) (i := (hb_ix ka)) (k' := 4) (i' := (hb_ix ka)) hi2 hi2 (fun q => absurd q.1 (by decide))) (hP.n (k := 3) (i := (hb_ix ka)) (k' := 5) (i' := (hb_ix ka)) hi2 hi2 (fun q => absurd q.1 (by decide))) (hP.n (k := 4) (i := (hb_ix ka)) (k' := 5) (i' := (hb_ix ka)) hi2 hi2 (fun q => absurd q.1 (by decide))) rfl rfl) cv_X5_88 (hw_up (hw_up (hw_up e2_hb_ix_kahP (hP.n (k := 2) (i := (hb_ix ka)) (k' := 0) (i' := 5) hi2 (by decide) (fun q => absurd q.1 (by decide)))) (hP.n (k := 2) (i := (hb_ix ka)) (k' := 0) (i' := 6) hi2 (by decide) (fun q => absurd q.1 (by decide)))) (hP.n (k := 2) (i := (hb_ix ka)) (k' := 0) (i' := 7) hi2 (by decide) (fun q => absurd q.1 (by decide)))) rfl rfl ⟨rfl, rfl⟩ ⟨(Nat.le_of_ble_eq_true rfl), (Nat.le_of_ble_eq_true rfl)⟩ rfl hl.1 rfl (Nat.le_of_ble_eq_true rfl) ⟨(Nat.le_of_ble_eq_true rfl), (Nat.le_of_ble_eq_true rfl)⟩ dX5_lay_34) (fun M34 H locs hR hI => ?_)
  subst hR
  refine lv_aload_n hx hb dX5_lay_37 rfl (lv_at hl 0 rfl) ?_
  refine hw_get hx hb hts hown hk hI fd_X5_68 (hw_up (hw_up (hw_up (hw_up (hw_up (hw_up e1_hb_ix_kahP (hP.n (k := 1) (i := (hb_ix ka)) (k' := 0) (i' := 5) hi2 (by decide) (fun q => absurd q.1 (by decide)))) (hP.n (k := 1) (i := (hb_ix ka)) (k' := 0) (i' := 6) hi2 (by decide) (fun q => absurd q.1 (by decide)))) (hP.n (k := 1) (i := (hb_ix ka)) (k' := 0) (i' := 7) hi2 (by decide) (fun q => absurd q.1 (by decide)))) (hP.n (k := 1) (i := (hb_ix ka)) (k' := 3) (i' := (hb_ix ka)) hi2 hi2 (fun q => absurd q.1 (by decide)))) (hP.n (k := 1) (i := (hb_ix ka)) (k' := 4) (i' := (hb_ix ka)) hi2 hi2 (fun q => absurd q.1 (by decide)))) (hP.n (k := 1) (i := (hb_ix ka)) (k' := 5) (i' := (hb_ix ka)) hi2 hi2 (fun q => absurd q.1 (by decide)))) rfl dX5_lay_38 ?_
  refine hw_ci hI (hw_rV hx hb hml hown hts hk hI (m_X4_height l Z (va_up (va_up (va_up (va_up (va_up (va_up M (ad 0 5) (hw_al Z 8 (hb_laid (hs_C S (hb_ix ka)) (hb_ix kw)))) (ad 0 6) (hw_al Z 8 (hb_hang (hb_laid (hs_C S (hb_ix ka)) (hb_ix kw))))) (ad 0 7) (hw_al Z 8 (hb_supp (hb_laid (hs_C S (hb_ix ka)) (hb_ix kw))))) (ad 3 (hb_ix ka)) (hw_al Z 8 (hb_laid (hs_C S (hb_ix ka)) (hb_ix kw)))) (ad 4 (hb_ix ka)) (hw_al Z 8 (hb_hang (hb_laid (hs_C S (hb_ix ka)) (hb_ix kw))))) (ad 5 (hb_ix ka)) (hw_al Z 8 (hb_supp (hb_laid (hs_C S (hb_ix ka)) (hb_ix kw))))) (ad 2 (hb_ix ka)) (ad 3 (hb_ix ka)) (ad 4 (hb_ix ka)) (ad 5 (hb_ix ka)) (hb_laid (hs_C S (hb_ix ka)) (hb_ix kw)) (hw_up (hw_up (hw_up (hw_up (hw_up (hw_up e2_hb_ix_kahP (hP.n (k := 2) (i := (hb_ix ka)) (k' := 0) (i' := 5) hi2 (by decide) (fun q => absurd q.1 (by decide)))) (hP.n (k := 2) (i := (hb_ix ka)) (k' := 0) (i' := 6) hi2 (by decide) (fun q => absurd q.1 (by decide)))) (hP.n (k := 2) (i := (hb_ix ka)) (k' := 0) (i' := 7) hi2 (by decide) (fun q => absurd q.1 (by decide)))) (hP.n (k := 2) (i := (hb_ix ka)) (k' := 3) (i' := (hb_ix ka)) hi2 hi2 (fun q => absurd q.1 (by decide)))) (hP.n (k := 2) (i := (hb_ix ka)) (k' := 4) (i' := (hb_ix ka)) hi2 hi2 (fun q => absurd q.1 (by decide)))) (hP.n (k := 2) (i := (hb_ix ka)) (k' := 5) (i' := (hb_ix ka)) hi2 hi2 (fun q => absurd q.1 (by decide)))) (hw_up (hw_up (hw_us _ _ _) (hP.n (k := 3) (i := (hb_ix ka)) (k' := 4) (i' := (hb_ix ka)) hi2 hi2 (fun q => absurd q.1 (by decide)))) (hP.n (k := 3) (i := (hb_ix ka)) (k' := 5) (i' := (hb_ix ka)) hi2 hi2 (fun q => absurd q.1 (by decide))))) cv_X5_92 (hw_up (hw_up (hw_up (hw_up (hw_up (hw_up e2_hb_ix_kahP (hP.n (k := 2) (i := (hb_ix ka)) (k' := 0) (i' := 5) hi2 (by decide) (fun q => absurd q.1 (by decide)))) (hP.n (k := 2) (i := (hb_ix ka)) (k' := 0) (i' := 6) hi2 (by decide) (fun q => absurd q.1 (by decide)))) (hP.n (k := 2) (i := (hb_ix ka)) (k' := 0) (i' := 7) hi2 (by decide) (fun q => absurd q.1 (by decide)))) (hP.n (k := 2) (i := (hb_ix ka)) (k' := 3) (i' := (hb_ix ka)) hi2 hi2 (fun q => absurd q.1 (by decide)))) (hP.n (k := 2) (i := (hb_ix ka)) (k' := 4) (i' := (hb_ix ka)) hi2 hi2 (fun q => absurd q.1 (by decide)))) (hP.n (k := 2) (i := (hb_ix ka)) (k' := 5) (i' := (hb_ix ka)) hi2 hi2 (fun q => absurd q.1 (by decide)))) rfl rfl ⟨rfl, rfl⟩ ⟨(Nat.le_of_ble_eq_true rfl), (Nat.le_of_ble_eq_true rfl)⟩ rfl hl.1 rfl (Nat.le_of_ble_eq_true rfl) ⟨(Nat.le_of_ble_eq_true rfl), (Nat.le_of_ble_eq_true rfl)⟩ dX5_lay_41) (fun r41 M41 H locs hR hI => ?_)
  obtain ⟨rfl, rfl⟩ := hR
  have ok_hfin : hp_ok Z b1 (va_up (va_up (va_up (va_up (va_up (va_up M (ad 0 5) (hw_al Z 8 (hb_laid (hs_C S (hb_ix ka)) (hb_ix kw)))) (ad 0 6) (hw_al Z 8 (hb_hang (hb_laid (hs_C S (hb_ix ka)) (hb_ix kw))))) (ad 0 7) (hw_al Z 8 (hb_supp (hb_laid (hs_C S (hb_ix ka)) (hb_ix kw))))) (ad 3 (hb_ix ka)) (hw_al Z 8 (hb_laid (hs_C S (hb_ix ka)) (hb_ix kw)))) (ad 4 (hb_ix ka)) (hw_al Z 8 (hb_hang (hb_laid (hs_C S (hb_ix ka)) (hb_ix kw))))) (ad 5 (hb_ix ka)) (hw_al Z 8 (hb_supp (hb_laid (hs_C S (hb_ix ka)) (hb_ix kw))))) ad (hs_sC S (hb_ix ka) (hb_laid (hs_C S (hb_ix ka)) (hb_ix kw))) ((hb_laid (hs_C S (hb_ix ka)) (hb_ix kw), hb_hang (hb_laid (hs_C S (hb_ix ka)) (hb_ix kw)), hb_supp (hb_laid (hs_C S (hb_ix ka)) (hb_ix kw)), T.2.2.2)) := by
    refine hP.fin (fun k i hi => ?_) rfl rfl
    by_cases q5 : k = 5 ∧ i = (hb_ix ka)
    · obtain ⟨rfl, qi⟩ := q5; obtain rfl := qi.symm
      rw [va_up_self]
      first | rfl | (simp only [hp_e, hp_e0, hp_hang0, va_up_self, ac_P_C, ac_D_C, ac_V_C, ac_M_C, ac_N_C, ac_Q_C, ac_C_C, ac_W_C, ac_U_C, ac_G_C, ac_np_C, ac_nw_C]; done) | (simp only [hp_e, hp_e0, hp_hang0, va_up_self, ac_P_C, ac_D_C, ac_V_C, ac_M_C, ac_N_C, ac_Q_C, ac_C_C, ac_W_C, ac_U_C, ac_G_C, ac_np_C, ac_nw_C]; rfl)
    by_cases q4 : k = 4 ∧ i = (hb_ix ka)
    · obtain ⟨rfl, qi⟩ := q4; obtain rfl := qi.symm
      rw [va_up_ne _ _ (hP.n (k := 4) (i := (hb_ix ka)) (k' := 5) (i' := (hb_ix ka)) hi2 hi2 (fun q => absurd q.1 (by decide))), va_up_self]
      first | rfl | (simp only [hp_e, hp_e0, hp_hang0, va_up_self, ac_P_C, ac_D_C, ac_V_C, ac_M_C, ac_N_C, ac_Q_C, ac_C_C, ac_W_C, ac_U_C, ac_G_C, ac_np_C, ac_nw_C]; done) | (simp only [hp_e, hp_e0, hp_hang0, va_up_self, ac_P_C, ac_D_C, ac_V_C, ac_M_C, ac_N_C, ac_Q_C, ac_C_C, ac_W_C, ac_U_C, ac_G_C, ac_np_C, ac_nw_C]; rfl)
    by_cases q3 : k = 3 ∧ i = (hb_ix ka)
    · obtain ⟨rfl, qi⟩ := q3; obtain rfl := qi.symm
      rw [va_up_ne _ _ (hP.n (k := 3) (i := (hb_ix ka)) (k' := 5) (i' := (hb_ix ka)) hi2 hi2 (fun q => absurd q.1 (by decide))), va_up_ne _ _ (hP.n (k := 3) (i := (hb_ix ka)) (k' := 4) (i' := (hb_ix ka)) hi2 hi2 (fun q => absurd q.1 (by decide))), va_up_self]
      first | rfl | (simp only [hp_e, hp_e0, hp_hang0, va_up_self, ac_P_C, ac_D_C, ac_V_C, ac_M_C, ac_N_C, ac_Q_C, ac_C_C, ac_W_C, ac_U_C, ac_G_C, ac_np_C, ac_nw_C]; done) | (simp only [hp_e, hp_e0, hp_hang0, va_up_self, ac_P_C, ac_D_C, ac_V_C, ac_M_C, ac_N_C, ac_Q_C, ac_C_C, ac_W_C, ac_U_C, ac_G_C, ac_np_C, ac_nw_C]; rfl)
    by_cases q2 : k = 0 ∧ i = 7
    · obtain ⟨rfl, qi⟩ := q2; obtain rfl := qi.symm
      rw [va_up_ne _ _ (hP.n (k := 0) (i := 7) (k' := 5) (i' := (hb_ix ka)) (by decide) hi2 (fun q => absurd q.1 (by decide))), va_up_ne _ _ (hP.n (k := 0) (i := 7) (k' := 4) (i' := (hb_ix ka)) (by decide) hi2 (fun q => absurd q.1 (by decide))), va_up_ne _ _ (hP.n (k := 0) (i := 7) (k' := 3) (i' := (hb_ix ka)) (by decide) hi2 (fun q => absurd q.1 (by decide))), va_up_self]
      first | rfl | (simp only [hp_e, hp_e0, hp_hang0, va_up_self, ac_P_C, ac_D_C, ac_V_C, ac_M_C, ac_N_C, ac_Q_C, ac_C_C, ac_W_C, ac_U_C, ac_G_C, ac_np_C, ac_nw_C]; done) | (simp only [hp_e, hp_e0, hp_hang0, va_up_self, ac_P_C, ac_D_C, ac_V_C, ac_M_C, ac_N_C, ac_Q_C, ac_C_C, ac_W_C, ac_U_C, ac_G_C, ac_np_C, ac_nw_C]; rfl)
    by_cases q1 : k = 0 ∧ i = 6
    · obtain ⟨rfl, qi⟩ := q1; obtain rfl := qi.symm
      rw [va_up_ne _ _ (hP.n (k := 0) (i := 6) (k' := 5) (i' := (hb_ix ka)) (by decide) hi2 (fun q => absurd q.1 (by decide))), va_up_ne _ _ (hP.n (k := 0) (i := 6) (k' := 4) (i' := (hb_ix ka)) (by decide) hi2 (fun q => absurd q.1 (by decide))), va_up_ne _ _ (hP.n (k := 0) (i := 6) (k' := 3) (i' := (hb_ix ka)) (by decide) hi2 (fun q => absurd q.1 (by decide))), va_up_ne _ _ (hP.n (k := 0) (i := 6) (k' := 0) (i' := 7) (by decide) (by decide) (by decide)), va_up_self]
      first | rfl | (simp only [hp_e, hp_e0, hp_hang0, va_up_self, ac_P_C, ac_D_C, ac_V_C, ac_M_C, ac_N_C, ac_Q_C, ac_C_C, ac_W_C, ac_U_C, ac_G_C, ac_np_C, ac_nw_C]; done) | (simp only [hp_e, hp_e0, hp_hang0, va_up_self, ac_P_C, ac_D_C, ac_V_C, ac_M_C, ac_N_C, ac_Q_C, ac_C_C, ac_W_C, ac_U_C, ac_G_C, ac_np_C, ac_nw_C]; rfl)
    by_cases q0 : k = 0 ∧ i = 5
    · obtain ⟨rfl, qi⟩ := q0; obtain rfl := qi.symm
      rw [va_up_ne _ _ (hP.n (k := 0) (i := 5) (k' := 5) (i' := (hb_ix ka)) (by decide) hi2 (fun q => absurd q.1 (by decide))), va_up_ne _ _ (hP.n (k := 0) (i := 5) (k' := 4) (i' := (hb_ix ka)) (by decide) hi2 (fun q => absurd q.1 (by decide))), va_up_ne _ _ (hP.n (k := 0) (i := 5) (k' := 3) (i' := (hb_ix ka)) (by decide) hi2 (fun q => absurd q.1 (by decide))), va_up_ne _ _ (hP.n (k := 0) (i := 5) (k' := 0) (i' := 7) (by decide) (by decide) (by decide)), va_up_ne _ _ (hP.n (k := 0) (i := 5) (k' := 0) (i' := 6) (by decide) (by decide) (by decide)), va_up_self]
      first | rfl | (simp only [hp_e, hp_e0, hp_hang0, va_up_self, ac_P_C, ac_D_C, ac_V_C, ac_M_C, ac_N_C, ac_Q_C, ac_C_C, ac_W_C, ac_U_C, ac_G_C, ac_np_C, ac_nw_C]; done) | (simp only [hp_e, hp_e0, hp_hang0, va_up_self, ac_P_C, ac_D_C, ac_V_C, ac_M_C, ac_N_C, ac_Q_C, ac_C_C, ac_W_C, ac_U_C, ac_G_C, ac_np_C, ac_nw_C]; rfl)
    rw [va_up_ne _ _ (hP.n (k := k) (i := i) (k' := 5) (i' := (hb_ix ka)) hi hi2 q5), va_up_ne _ _ (hP.n (k := k) (i := i) (k' := 4) (i' := (hb_ix ka)) hi hi2 q4), va_up_ne _ _ (hP.n (k := k) (i := i) (k' := 3) (i' := (hb_ix ka)) hi hi2 q3), va_up_ne _ _ (hP.n (k := k) (i := i) (k' := 0) (i' := 7) hi (by decide) q2), va_up_ne _ _ (hP.n (k := k) (i := i) (k' := 0) (i' := 6) hi (by decide) q1), va_up_ne _ _ (hP.n (k := k) (i := i) (k' := 0) (i' := 5) hi (by decide) q0)]
    exact (hP.m k i hi).trans (((sm_C (k := k) (i := i) _ _ (by omega)).trans (sm_Ts (k := k) (i := i) (by omega)))).symm
  have fr_hfin : ∀ a, b1 a → (va_up (va_up (va_up (va_up (va_up (va_up M (ad 0 5) (hw_al Z 8 (hb_laid (hs_C S (hb_ix ka)) (hb_ix kw)))) (ad 0 6) (hw_al Z 8 (hb_hang (hb_laid (hs_C S (hb_ix ka)) (hb_ix kw))))) (ad 0 7) (hw_al Z 8 (hb_supp (hb_laid (hs_C S (hb_ix ka)) (hb_ix kw))))) (ad 3 (hb_ix ka)) (hw_al Z 8 (hb_laid (hs_C S (hb_ix ka)) (hb_ix kw)))) (ad 4 (hb_ix ka)) (hw_al Z 8 (hb_hang (hb_laid (hs_C S (hb_ix ka)) (hb_ix kw))))) (ad 5 (hb_ix ka)) (hw_al Z 8 (hb_supp (hb_laid (hs_C S (hb_ix ka)) (hb_ix kw))))) a = M a := by
    intro a ha
    rw [va_up_ne _ _ (hP.f (k := 5) (i := (hb_ix ka)) hi2 ha), va_up_ne _ _ (hP.f (k := 4) (i := (hb_ix ka)) hi2 ha), va_up_ne _ _ (hP.f (k := 3) (i := (hb_ix ka)) hi2 ha), va_up_ne _ _ (hP.f (k := 0) (i := 7) (by decide) ha), va_up_ne _ _ (hP.f (k := 0) (i := 6) (by decide) ha), va_up_ne _ _ (hP.f (k := 0) (i := 5) (by decide) ha)]
  have hfin : hq_R Z b1 M ad (st_lay S ka kw) (nI (hb_ht (hb_laid (hs_C S (hb_ix ka)) (hb_ix kw)) 8)) (va_up (va_up (va_up (va_up (va_up (va_up M (ad 0 5) (hw_al Z 8 (hb_laid (hs_C S (hb_ix ka)) (hb_ix kw)))) (ad 0 6) (hw_al Z 8 (hb_hang (hb_laid (hs_C S (hb_ix ka)) (hb_ix kw))))) (ad 0 7) (hw_al Z 8 (hb_supp (hb_laid (hs_C S (hb_ix ka)) (hb_ix kw))))) (ad 3 (hb_ix ka)) (hw_al Z 8 (hb_laid (hs_C S (hb_ix ka)) (hb_ix kw)))) (ad 4 (hb_ix ka)) (hw_al Z 8 (hb_hang (hb_laid (hs_C S (hb_ix ka)) (hb_ix kw))))) (ad 5 (hb_ix ka)) (hw_al Z 8 (hb_supp (hb_laid (hs_C S (hb_ix ka)) (hb_ix kw))))) := hq_r (S' := hs_sC S (hb_ix ka) (hb_laid (hs_C S (hb_ix ka)) (hb_ix kw))) (T' := (hb_laid (hs_C S (hb_ix ka)) (hb_ix kw), hb_hang (hb_laid (hs_C S (hb_ix ka)) (hb_ix kw)), hb_supp (hb_laid (hs_C S (hb_ix ka)) (hb_ix kw)), T.2.2.2)) (by unfold st_lay; exact ((if_neg (fun q => q hk2)).trans ((if_neg (fun q => q hk7)).trans ((if_neg (fun q => q hk11)).trans rfl)))) ok_hfin fr_hfin
  exact hret hI hfin (Nat.le_of_ble_eq_true rfl) (Nat.le_of_ble_eq_true rfl) dX5_lay_44

set_option maxHeartbeats 4000000 in
set_option maxRecDepth 100000 in
theorem m_X5_powder (l : Launch) (hst : l.stackTraces = false) (Z : hw_Z) (M : hw_M) (ad : hp_ad) (S : hs_S) (T : hp_T) (b1 : Nat → Prop) (ka : Int32) (kg : Int32) (hP : hp_ok Z b1 M ad S T) (hB : hs_b S) : vx_Met l yX5_powder (hw_m yX5_powder cX5_powder 4 (some .int)) ({ frames := 9, cells := 6, slots := 36, locals := 190 } : Room) (va_Pc [.ref (ad 0 0), .int ka, .int kg] (hw_P Z M)) (hw_Qi Z (hq_R Z b1 M ad (st_powder S ka kg))) (hw_X Z (hq_X ["java/lang/IllegalArgumentException", "java/lang/IllegalStateException"] M S (st_powder S ka kg))) 6 36 (hw_A Z) := by
  refine hw_xofi hst (by decide +kernel) rfl (Nat.le_of_ble_eq_true rfl) ?_
  intro p e s m below meth c ls Q hx hb hml hown hts hk hnm hI hl hret hxo hthr hthrW
  have hnp := hB.np
  have hnw := hB.nw
  have e0_0hP : M (ad 0 0) = hw_ob 6 [.ref (ad 0 1), .ref (ad 0 2), .ref (ad 0 3), .int (nI (hs_np S)), .int (nI (hs_nw S)), .int (hs_G S 0), .int (hs_G S 1), .ref (ad 0 4), .ref (ad 0 8)] := hP.m 0 0 (by decide)
  have e0_2hP : M (ad 0 2) = hw_ar Z 4 6 (fun j => some (ad 8 j)) := hP.m 0 2 (by decide)
  refine lv_iload_n hx hb dX5_powder_0 rfl (lv_at hl 1 rfl) ?_
  refine lv_if_lt (tgt := 9) hx hb dX5_powder_1 (by decide) (fun c1 => ?_) (fun c1 => ?_)
  · exact hthr hI th_X5_96_98_100 hl.1 dX5_powder_9 dX5_powder_12 dX5_powder_13 dX5_powder_15 dX5_powder_18 (Nat.le_of_ble_eq_true rfl) (Nat.le_of_ble_eq_true rfl) (Nat.le_of_ble_eq_true rfl) (Nat.le_of_ble_eq_true rfl) (hq_x (c := 1) (by unfold st_powder; exact (hq_if (fun q => hb_nok1 c1 q.1) ⟨rfl, rfl⟩)) ⟨by decide, rfl⟩ rfl) (Nat.le_of_ble_eq_true rfl) (Nat.le_of_ble_eq_true rfl)
  · refine lv_iload_n hx hb dX5_powder_4 rfl (lv_at hl 1 rfl) ?_
    refine lv_iconst (v := nI 3) hx hb dX5_powder_5 (by decide) ?_
    refine lv_icmp_lt (tgt := 19) hx hb dX5_powder_6 (by decide) (fun c6 => ?_) (fun c6 => ?_)
    · refine lv_iload_n hx hb dX5_powder_19 rfl (lv_at hl 2 rfl) ?_
      refine lv_iconst (v := nI 1) hx hb dX5_powder_20 (by decide) ?_
      refine lv_icmp_lt (tgt := 31) hx hb dX5_powder_21 (by decide) (fun c21 => ?_) (fun c21 => ?_)
      · exact hthr hI th_X5_96_101_100 hl.1 dX5_powder_31 dX5_powder_34 dX5_powder_35 dX5_powder_37 dX5_powder_40 (Nat.le_of_ble_eq_true rfl) (Nat.le_of_ble_eq_true rfl) (Nat.le_of_ble_eq_true rfl) (Nat.le_of_ble_eq_true rfl) (hq_x (c := 1) (by unfold st_powder; exact (hq_if (fun q => q.2.1 c21) ⟨rfl, rfl⟩)) ⟨by decide, rfl⟩ rfl) (Nat.le_of_ble_eq_true rfl) (Nat.le_of_ble_eq_true rfl)
      · refine lv_iload_n hx hb dX5_powder_24 rfl (lv_at hl 2 rfl) ?_
        refine lv_sipush (v := nI 2000) hx hb dX5_powder_25 (by decide) ?_
        refine lv_icmp_le (tgt := 41) hx hb dX5_powder_28 (by decide) (fun c28 => ?_) (fun c28 => ?_)
        · refine lv_aload_n hx hb dX5_powder_41 rfl (lv_at hl 0 rfl) ?_
          refine hw_get hx hb hts hown hk hI fd_X5_103 e0_0hP rfl dX5_powder_42 ?_
          refine lv_bipush (v := nI 6) hx hb dX5_powder_45 (by decide) ?_
          refine lv_icmp_lt (tgt := 60) hx hb dX5_powder_47 (by decide) (fun c47 => ?_) (fun c47 => ?_)
          · have hw6 : hs_nw S < 6 := hq_lt (by omega) (by omega) c47
            have e8_hs_nw_ShP : M (ad 8 (hs_nw S)) = hw_ob 4 [.int (nI (hs_nw S)), .int (hs_V S (hs_nw S) 0), .int (hs_V S (hs_nw S) 1), .int (hs_V S (hs_nw S) 2), .int (hs_V S (hs_nw S) 3), .int (hs_V S (hs_nw S) 4)] := hP.m 8 (hs_nw S) hw6
            refine lv_aload_n hx hb dX5_powder_60 rfl (lv_at hl 0 rfl) ?_
            refine hw_get hx hb hts hown hk hI fd_X5_17 e0_0hP rfl dX5_powder_61 ?_
            refine lv_aload_n hx hb dX5_powder_64 rfl (lv_at hl 0 rfl) ?_
            refine hw_get hx hb hts hown hk hI fd_X5_103 e0_0hP rfl dX5_powder_65 ?_
            refine hw_aald hx hb hk hI 4 (v := .ref (ad 8 (hs_nw S))) e0_2hP rfl (j := (hs_nw S)) rfl (by omega) (by decide) rfl dX5_powder_68 ?_
            refine lv_astore_n (lv' := [(3, .ref (ad 8 (hs_nw S))), (0, .ref (ad 0 0)), (1, .int ka), (2, .int kg)]) hx hb dX5_powder_69 rfl hl (by decide) rfl (fun ls hl => ?_)
            refine lv_aload_n hx hb dX5_powder_70 rfl (lv_at hl 0 rfl) ?_
            refine lv_iload_n hx hb dX5_powder_71 rfl (lv_at hl 2 rfl) ?_
            refine hw_put (fs' := [.int (nI (hs_nw S)), .int ka, .int (hs_V S (hs_nw S) 1), .int (hs_V S (hs_nw S) 2), .int (hs_V S (hs_nw S) 3), .int (hs_V S (hs_nw S) 4)]) hx hb hts hown hk hI fp_X5_108 e8_hs_nw_ShP (Nat.le_of_ble_eq_true rfl) rfl rfl rfl dX5_powder_72 (fun H locs hI => ?_)
            refine lv_aload_n hx hb dX5_powder_75 rfl (lv_at hl 0 rfl) ?_
            refine lv_iload_n hx hb dX5_powder_76 rfl (lv_at hl 3 rfl) ?_
            refine hw_put (fs' := [.int (nI (hs_nw S)), .int ka, .int kg, .int (hs_V S (hs_nw S) 2), .int (hs_V S (hs_nw S) 3), .int (hs_V S (hs_nw S) 4)]) hx hb hts hown hk hI fp_X5_111 (hw_us _ _ _) (Nat.le_of_ble_eq_true rfl) rfl rfl rfl dX5_powder_77 (fun H locs hI => ?_)
            refine lv_aload_n hx hb dX5_powder_80 rfl (lv_at hl 1 rfl) ?_
            refine lv_dup hx hb dX5_powder_81 rfl ?_
            refine hw_get hx hb hts hown hk hI fd_X5_103 (hw_up (hw_up e0_0hP (hP.n (k := 0) (i := 0) (k' := 8) (i' := (hs_nw S)) (by decide) hw6 (fun q => absurd q.1 (by decide)))) (hP.n (k := 0) (i := 0) (k' := 8) (i' := (hs_nw S)) (by decide) hw6 (fun q => absurd q.1 (by decide)))) rfl dX5_powder_82 ?_
            refine lv_iconst (v := nI 1) hx hb dX5_powder_85 (by decide) ?_
            refine lv_iadd hx hb dX5_powder_86 ?_
            refine hw_ti (nI_add _ _) ?_
            refine hw_put (fs' := [.ref (ad 0 1), .ref (ad 0 2), .ref (ad 0 3), .int (nI (hs_np S)), .int (nI ((hs_nw S) + 1)), .int (hs_G S 0), .int (hs_G S 1), .ref (ad 0 4), .ref (ad 0 8)]) hx hb hts hown hk hI fp_X5_103 (hw_up (hw_up e0_0hP (hP.n (k := 0) (i := 0) (k' := 8) (i' := (hs_nw S)) (by decide) hw6 (fun q => absurd q.1 (by decide)))) (hP.n (k := 0) (i := 0) (k' := 8) (i' := (hs_nw S)) (by decide) hw6 (fun q => absurd q.1 (by decide)))) (Nat.le_of_ble_eq_true rfl) rfl rfl rfl dX5_powder_87 (fun H locs hI => ?_)
            refine lv_aload_n hx hb dX5_powder_90 rfl (lv_at hl 0 rfl) ?_
            refine hw_get hx hb hts hown hk hI fd_X5_114 (hw_up (hw_us _ _ _) (hP.n (k := 8) (i := (hs_nw S)) (k' := 0) (i' := 0) hw6 (by decide) (fun q => absurd q.1 (by decide)))) rfl dX5_powder_91 ?_
            have ok_hfin : hp_ok Z b1 (va_up (va_up (va_up M (ad 8 (hs_nw S)) (hw_ob 4 [.int (nI (hs_nw S)), .int ka, .int (hs_V S (hs_nw S) 1), .int (hs_V S (hs_nw S) 2), .int (hs_V S (hs_nw S) 3), .int (hs_V S (hs_nw S) 4)])) (ad 8 (hs_nw S)) (hw_ob 4 [.int (nI (hs_nw S)), .int ka, .int kg, .int (hs_V S (hs_nw S) 2), .int (hs_V S (hs_nw S) 3), .int (hs_V S (hs_nw S) 4)])) (ad 0 0) (hw_ob 6 [.ref (ad 0 1), .ref (ad 0 2), .ref (ad 0 3), .int (nI (hs_np S)), .int (nI ((hs_nw S) + 1)), .int (hs_G S 0), .int (hs_G S 1), .ref (ad 0 4), .ref (ad 0 8)])) ad (hs_sw (hs_sV S (hs_nw S) (va_up (va_up (hs_V S (hs_nw S)) 0 ka) 1 kg)) (hs_nw S + 1)) (T) := by
              refine hP.fin (fun k i hi => ?_) hP.h0 hP.s7
              by_cases q2 : k = 0 ∧ i = 0
              · obtain ⟨rfl, qi⟩ := q2; obtain rfl := qi.symm
                rw [va_up_self]
                first | rfl | (simp only [hp_e, hp_e0, hp_hang0, va_up_self, ac_P_V, ac_D_V, ac_V_V, ac_M_V, ac_N_V, ac_Q_V, ac_C_V, ac_W_V, ac_U_V, ac_G_V, ac_np_V, ac_nw_V, ac_P_w, ac_D_w, ac_V_w, ac_M_w, ac_N_w, ac_Q_w, ac_C_w, ac_W_w, ac_U_w, ac_G_w, ac_np_w, ac_nw_w]; done) | (simp only [hp_e, hp_e0, hp_hang0, va_up_self, ac_P_V, ac_D_V, ac_V_V, ac_M_V, ac_N_V, ac_Q_V, ac_C_V, ac_W_V, ac_U_V, ac_G_V, ac_np_V, ac_nw_V, ac_P_w, ac_D_w, ac_V_w, ac_M_w, ac_N_w, ac_Q_w, ac_C_w, ac_W_w, ac_U_w, ac_G_w, ac_np_w, ac_nw_w]; rfl)
              by_cases q1 : k = 8 ∧ i = (hs_nw S)
              · obtain ⟨rfl, qi⟩ := q1; obtain rfl := qi.symm
                rw [va_up_ne _ _ (hP.n (k := 8) (i := (hs_nw S)) (k' := 0) (i' := 0) hw6 (by decide) (fun q => absurd q.1 (by decide))), va_up_self]
                first | rfl | (simp only [hp_e, hp_e0, hp_hang0, va_up_self, ac_P_V, ac_D_V, ac_V_V, ac_M_V, ac_N_V, ac_Q_V, ac_C_V, ac_W_V, ac_U_V, ac_G_V, ac_np_V, ac_nw_V, ac_P_w, ac_D_w, ac_V_w, ac_M_w, ac_N_w, ac_Q_w, ac_C_w, ac_W_w, ac_U_w, ac_G_w, ac_np_w, ac_nw_w]; done) | (simp only [hp_e, hp_e0, hp_hang0, va_up_self, ac_P_V, ac_D_V, ac_V_V, ac_M_V, ac_N_V, ac_Q_V, ac_C_V, ac_W_V, ac_U_V, ac_G_V, ac_np_V, ac_nw_V, ac_P_w, ac_D_w, ac_V_w, ac_M_w, ac_N_w, ac_Q_w, ac_C_w, ac_W_w, ac_U_w, ac_G_w, ac_np_w, ac_nw_w]; rfl)
              rw [va_up_ne _ _ (hP.n (k := k) (i := i) (k' := 0) (i' := 0) hi (by decide) q2), va_up_ne _ _ (hP.n (k := k) (i := i) (k' := 8) (i' := (hs_nw S)) hi hw6 q1), va_up_ne _ _ (hP.n (k := k) (i := i) (k' := 8) (i' := (hs_nw S)) hi hw6 q1)]
              exact (hP.m k i hi).trans (((sm_w (k := k) (i := i) _ (by omega)).trans (sm_V (k := k) (i := i) _ _ (by omega)))).symm
            have fr_hfin : ∀ a, b1 a → (va_up (va_up (va_up M (ad 8 (hs_nw S)) (hw_ob 4 [.int (nI (hs_nw S)), .int ka, .int (hs_V S (hs_nw S) 1), .int (hs_V S (hs_nw S) 2), .int (hs_V S (hs_nw S) 3), .int (hs_V S (hs_nw S) 4)])) (ad 8 (hs_nw S)) (hw_ob 4 [.int (nI (hs_nw S)), .int ka, .int kg, .int (hs_V S (hs_nw S) 2), .int (hs_V S (hs_nw S) 3), .int (hs_V S (hs_nw S) 4)])) (ad 0 0) (hw_ob 6 [.ref (ad 0 1), .ref (ad 0 2), .ref (ad 0 3), .int (nI (hs_np S)), .int (nI ((hs_nw S) + 1)), .int (hs_G S 0), .int (hs_G S 1), .ref (ad 0 4), .ref (ad 0 8)])) a = M a := by
              intro a ha
              rw [va_up_ne _ _ (hP.f (k := 0) (i := 0) (by decide) ha), va_up_ne _ _ (hP.f (k := 8) (i := (hs_nw S)) hw6 ha), va_up_ne _ _ (hP.f (k := 8) (i := (hs_nw S)) hw6 ha)]
            have hfin : hq_R Z b1 M ad (st_powder S ka kg) (nI (hs_nw S)) (va_up (va_up (va_up M (ad 8 (hs_nw S)) (hw_ob 4 [.int (nI (hs_nw S)), .int ka, .int (hs_V S (hs_nw S) 1), .int (hs_V S (hs_nw S) 2), .int (hs_V S (hs_nw S) 3), .int (hs_V S (hs_nw S) 4)])) (ad 8 (hs_nw S)) (hw_ob 4 [.int (nI (hs_nw S)), .int ka, .int kg, .int (hs_V S (hs_nw S) 2), .int (hs_V S (hs_nw S) 3), .int (hs_V S (hs_nw S) 4)])) (ad 0 0) (hw_ob 6 [.ref (ad 0 1), .ref (ad 0 2), .ref (ad 0 3), .int (nI (hs_np S)), .int (nI ((hs_nw S) + 1)), .int (hs_G S 0), .int (hs_G S 1), .ref (ad 0 4), .ref (ad 0 8)])) := hq_r (S' := hs_sw (hs_sV S (hs_nw S) (va_up (va_up (hs_V S (hs_nw S)) 0 ka) 1 kg)) (hs_nw S + 1)) (T' := T) (by unfold st_powder; exact ((if_neg (fun q => q ⟨⟨Int32.not_lt.mp c1, c6⟩, c21, c28⟩)).trans ((if_neg (fun q => absurd c47 (nI_nlt q (by omega)))).trans rfl))) ok_hfin fr_hfin
            exact hret hI hfin (Nat.le_of_ble_eq_true rfl) (Nat.le_of_ble_eq_true rfl) dX5_powder_94
          · exact hthr hI th_X5_50_106_54 hl.1 dX5_powder_50 dX5_powder_53 dX5_powder_54 dX5_powder_56 dX5_powder_59 (Nat.le_of_ble_eq_true rfl) (Nat.le_of_ble_eq_true rfl) (Nat.le_of_ble_eq_true rfl) (Nat.le_of_ble_eq_true rfl) (hq_x (c := 2) (by unfold st_powder; exact (hq_el (fun q => q ⟨⟨Int32.not_lt.mp c1, c6⟩, c21, c28⟩) (hq_if (hq_ge (by omega) (by omega) c47) ⟨rfl, rfl⟩))) ⟨by decide, rfl⟩ rfl) (Nat.le_of_ble_eq_true rfl) (Nat.le_of_ble_eq_true rfl)
        · exact hthr hI th_X5_96_101_100 hl.1 dX5_powder_31 dX5_powder_34 dX5_powder_35 dX5_powder_37 dX5_powder_40 (Nat.le_of_ble_eq_true rfl) (Nat.le_of_ble_eq_true rfl) (Nat.le_of_ble_eq_true rfl) (Nat.le_of_ble_eq_true rfl) (hq_x (c := 1) (by unfold st_powder; exact (hq_if (fun q => c28 q.2.2) ⟨rfl, rfl⟩)) ⟨by decide, rfl⟩ rfl) (Nat.le_of_ble_eq_true rfl) (Nat.le_of_ble_eq_true rfl)
    · exact hthr hI th_X5_96_98_100 hl.1 dX5_powder_9 dX5_powder_12 dX5_powder_13 dX5_powder_15 dX5_powder_18 (Nat.le_of_ble_eq_true rfl) (Nat.le_of_ble_eq_true rfl) (Nat.le_of_ble_eq_true rfl) (Nat.le_of_ble_eq_true rfl) (hq_x (c := 1) (by unfold st_powder; exact (hq_if (fun q => hb_nok2 c6 q.1) ⟨rfl, rfl⟩)) ⟨by decide, rfl⟩ rfl) (Nat.le_of_ble_eq_true rfl) (Nat.le_of_ble_eq_true rfl)

set_option maxHeartbeats 4000000 in
set_option maxRecDepth 100000 in
theorem m_X5_blend (l : Launch) (hst : l.stackTraces = false) (Z : hw_Z) (M : hw_M) (ad : hp_ad) (S : hs_S) (T : hp_T) (b1 : Nat → Prop) (ka : Int32) (kc : Int32) (hP : hp_ok Z b1 M ad S T) (hB : hs_b S) : vx_Met l yX5_blend (hw_m yX5_blend cX5_blend 5 (some .int)) ({ frames := 9, cells := 6, slots := 36, locals := 190 } : Room) (va_Pc [.ref (ad 0 0), .int ka, .int kc] (hw_P Z M)) (hw_Qi Z (hq_R Z b1 M ad (st_blend S ka kc))) (hw_X Z (hq_X ["java/lang/IndexOutOfBoundsException", "java/lang/IllegalArgumentException", "java/lang/IllegalStateException"] M S (st_blend S ka kc))) 6 36 (hw_A Z) := by
  refine hw_xofi hst (by decide +kernel) rfl (Nat.le_of_ble_eq_true rfl) ?_
  intro p e s m below meth c ls Q hx hb hml hown hts hk hnm hI hl hret hxo hthr hthrW
  have hnp := hB.np
  have hnw := hB.nw
  have e0_0hP : M (ad 0 0) = hw_ob 6 [.ref (ad 0 1), .ref (ad 0 2), .ref (ad 0 3), .int (nI (hs_np S)), .int (nI (hs_nw S)), .int (hs_G S 0), .int (hs_G S 1), .ref (ad 0 4), .ref (ad 0 8)] := hP.m 0 0 (by decide)
  have e0_2hP : M (ad 0 2) = hw_ar Z 4 6 (fun j => some (ad 8 j)) := hP.m 0 2 (by decide)
  refine lv_aload_n hx hb dX5_blend_0 rfl (lv_at hl 0 rfl) ?_
  refine lv_iload_n hx hb dX5_blend_1 rfl (lv_at hl 1 rfl) ?_
  refine hw_xr hI hxo (hw_xV hx hb hml hown hts hk hI (m_X5_powderAt l hst Z M (ad 0 0) (ad 0 1) (ad 0 2) (ad 0 3) (ad 0 4) (ad 0 8) (hs_np S) (hs_nw S) (hs_G S 0) (hs_G S 1) ka (ad 8) e0_0hP e0_2hP hnw) cv_X5_117 e0_0hP rfl rfl ⟨rfl, rfl⟩ ⟨(Nat.le_of_ble_eq_true rfl), (Nat.le_of_ble_eq_true rfl)⟩ rfl hl.1 rfl (Nat.le_of_ble_eq_true rfl) ⟨(Nat.le_of_ble_eq_true rfl), (Nat.le_of_ble_eq_true rfl)⟩ dX5_blend_2) (hq_xc (c := 1) (fun h => by unfold st_blend; exact (hq_if (fun q => h q.1) ⟨rfl, rfl⟩)) ⟨by decide, rfl⟩) (Nat.le_of_ble_eq_true rfl) (Nat.le_of_ble_eq_true rfl) (fun r2 M2 H locs hR hI => ?_)
  obtain ⟨⟨hk2, rfl⟩, rfl⟩ := hR
  have hx2 := hb_okx (by omega) hk2
  have hi2 : hb_ix ka < 6 := by have := hx2.1; omega
  have e8_hb_ix_kahP : M (ad 8 (hb_ix ka)) = hw_ob 4 [.int (nI (hb_ix ka)), .int (hs_V S (hb_ix ka) 0), .int (hs_V S (hb_ix ka) 1), .int (hs_V S (hb_ix ka) 2), .int (hs_V S (hb_ix ka) 3), .int (hs_V S (hb_ix ka) 4)] := hP.m 8 (hb_ix ka) hi2
  refine lv_astore_n (lv' := [(3, .ref (ad 8 (hb_ix ka))), (0, .ref (ad 0 0)), (1, .int ka), (2, .int kc)]) hx hb dX5_blend_5 rfl hl (by decide) rfl (fun ls hl => ?_)
  refine lv_aload_n hx hb dX5_blend_6 rfl (lv_at hl 1 rfl) ?_
  refine lv_iload_n hx hb dX5_blend_7 rfl (lv_at hl 3 rfl) ?_
  refine hw_xr hI hxo (hw_xV hx hb hml hown hts hk hI (m_X5_powderAt l hst Z M (ad 0 0) (ad 0 1) (ad 0 2) (ad 0 3) (ad 0 4) (ad 0 8) (hs_np S) (hs_nw S) (hs_G S 0) (hs_G S 1) kc (ad 8) e0_0hP e0_2hP hnw) cv_X5_117 e0_0hP rfl rfl ⟨rfl, rfl⟩ ⟨(Nat.le_of_ble_eq_true rfl), (Nat.le_of_ble_eq_true rfl)⟩ rfl hl.1 rfl (Nat.le_of_ble_eq_true rfl) ⟨(Nat.le_of_ble_eq_true rfl), (Nat.le_of_ble_eq_true rfl)⟩ dX5_blend_8) (hq_xc (c := 1) (fun h => by unfold st_blend; exact (hq_if (fun q => h q.2) ⟨rfl, rfl⟩)) ⟨by decide, rfl⟩) (Nat.le_of_ble_eq_true rfl) (Nat.le_of_ble_eq_true rfl) (fun r8 M8 H locs hR hI => ?_)
  obtain ⟨⟨hk8, rfl⟩, rfl⟩ := hR
  have hx8 := hb_okx (by omega) hk8
  have hi8 : hb_ix kc < 6 := by have := hx8.1; omega
  have e8_hb_ix_kchP : M (ad 8 (hb_ix kc)) = hw_ob 4 [.int (nI (hb_ix kc)), .int (hs_V S (hb_ix kc) 0), .int (hs_V S (hb_ix kc) 1), .int (hs_V S (hb_ix kc) 2), .int (hs_V S (hb_ix kc) 3), .int (hs_V S (hb_ix kc) 4)] := hP.m 8 (hb_ix kc) hi8
  refine lv_astore (lv' := [(4, .ref (ad 8 (hb_ix kc))), (3, .ref (ad 8 (hb_ix ka))), (0, .ref (ad 0 0)), (1, .int ka), (2, .int kc)]) hx hb dX5_blend_11 hl (by decide) rfl (fun ls hl => ?_)
  refine lv_iload_n hx hb dX5_blend_13 rfl (lv_at hl 3 rfl) ?_
  refine lv_iload_n hx hb dX5_blend_14 rfl (lv_at hl 4 rfl) ?_
  refine lv_icmp_ne (tgt := 28) hx hb dX5_blend_15 (by decide) (fun c15 => ?_) (fun c15 => ?_)
  · have hfg : hb_ix ka ≠ hb_ix kc := fun q => c15 (by rw [hx2.2, hx8.2, q])
    refine lv_aload_n hx hb dX5_blend_28 rfl (lv_at hl 1 rfl) ?_
    refine hw_get hx hb hts hown hk hI fd_X5_108 e8_hb_ix_kahP rfl dX5_blend_29 ?_
    refine lv_aload hx hb dX5_blend_32 (lv_at hl 0 rfl) ?_
    refine hw_get hx hb hts hown hk hI fd_X5_108 e8_hb_ix_kchP rfl dX5_blend_34 ?_
    refine lv_icmp_eq (tgt := 50) hx hb dX5_blend_37 (by decide) (fun c37 => ?_) (fun c37 => ?_)
    · refine lv_aload_n hx hb dX5_blend_50 rfl (lv_at hl 1 rfl) ?_
      refine hw_get hx hb hts hown hk hI fd_X5_125 e8_hb_ix_kahP rfl dX5_blend_51 ?_
      refine lv_iconst (v := (-1)) hx hb dX5_blend_54 (by decide) ?_
      refine lv_icmp_ne (tgt := 67) hx hb dX5_blend_55 (by decide) (fun c55 => ?_) (fun c55 => ?_)
      · exact hthr hI th_X5_50_128_54 hl.1 dX5_blend_67 dX5_blend_70 dX5_blend_71 dX5_blend_73 dX5_blend_76 (Nat.le_of_ble_eq_true rfl) (Nat.le_of_ble_eq_true rfl) (Nat.le_of_ble_eq_true rfl) (Nat.le_of_ble_eq_true rfl) (hq_x (c := 3) (by unfold st_blend; exact (hq_el (fun q => q ⟨hk2, hk8⟩) (hq_el (fun q => q.elim c15 (fun q => q c37)) (hq_if (Or.inl c55) ⟨rfl, rfl⟩)))) ⟨by decide, rfl⟩ rfl) (Nat.le_of_ble_eq_true rfl) (Nat.le_of_ble_eq_true rfl)
      · refine lv_aload hx hb dX5_blend_58 (lv_at hl 0 rfl) ?_
        refine hw_get hx hb hts hown hk hI fd_X5_125 e8_hb_ix_kchP rfl dX5_blend_60 ?_
        refine lv_iconst (v := (-1)) hx hb dX5_blend_63 (by decide) ?_
        refine lv_icmp_eq (tgt := 77) hx hb dX5_blend_64 (by decide) (fun c64 => ?_) (fun c64 => ?_)
        · refine lv_aload_n hx hb dX5_blend_77 rfl (lv_at hl 1 rfl) ?_
          refine lv_aload hx hb dX5_blend_78 (lv_at hl 0 rfl) ?_
          refine hw_cv hI (hw_rV hx hb hml hown hts hk hI (m_X3_takeIn l Z M (ad 8 (hb_ix ka)) (ad 8 (hb_ix kc)) (nI (hb_ix ka)) (hs_V S (hb_ix ka) 0) (hs_V S (hb_ix ka) 1) (hs_V S (hb_ix ka) 2) (hs_V S (hb_ix ka) 3) (hs_V S (hb_ix ka) 4) (nI (hb_ix kc)) (hs_V S (hb_ix kc) 0) (hs_V S (hb_ix kc) 1) (hs_V S (hb_ix kc) 2) (hs_V S (hb_ix kc) 3) (hs_V S (hb_ix kc) 4) e8_hb_ix_kahP e8_hb_ix_kchP (hP.n (k := 8) (i := (hb_ix ka)) (k' := 8) (i' := (hb_ix kc)) hi2 hi8 (fun q => hfg q.2))) cv_X5_130 e8_hb_ix_kahP rfl rfl ⟨rfl, rfl⟩ ⟨(Nat.le_of_ble_eq_true rfl), (Nat.le_of_ble_eq_true rfl)⟩ rfl hl.1 rfl (Nat.le_of_ble_eq_true rfl) ⟨(Nat.le_of_ble_eq_true rfl), (Nat.le_of_ble_eq_true rfl)⟩ dX5_blend_80) (fun M80 H locs hR hI => ?_)
          subst hR
          refine lv_aload_n hx hb dX5_blend_83 rfl (lv_at hl 1 rfl) ?_
          refine hw_get hx hb hts hown hk hI fd_X5_111 (hw_up (hw_us _ _ _) (hP.n (k := 8) (i := (hb_ix ka)) (k' := 8) (i' := (hb_ix kc)) hi2 hi8 (fun q => hfg q.2))) rfl dX5_blend_84 ?_
          have ok_hfin : hp_ok Z b1 (va_up (va_up M (ad 8 (hb_ix ka)) (hw_ob 4 [.int (nI (hb_ix ka)), .int (hs_V S (hb_ix ka) 0), .int ((hs_V S (hb_ix ka) 1) + (hs_V S (hb_ix kc) 1)), .int (hb_max (hs_V S (hb_ix ka) 2) (hs_V S (hb_ix kc) 2)), .int ((hs_V S (hb_ix ka) 3) ||| (hs_V S (hb_ix kc) 3)), .int (hs_V S (hb_ix ka) 4)])) (ad 8 (hb_ix kc)) (hw_ob 4 [.int (nI (hb_ix kc)), .int (hs_V S (hb_ix kc) 0), .int (nI 0), .int (hs_V S (hb_ix kc) 2), .int (hs_V S (hb_ix kc) 3), .int (hs_V S (hb_ix kc) 4)])) ad (hs_sV (hs_sV S (hb_ix ka) (va_up (va_up (va_up (hs_V S (hb_ix ka)) 1 (hs_V S (hb_ix ka) 1 + hs_V S (hb_ix kc) 1)) 2 (hb_max (hs_V S (hb_ix ka) 2) (hs_V S (hb_ix kc) 2))) 3 (hs_V S (hb_ix ka) 3 ||| hs_V S (hb_ix kc) 3))) (hb_ix kc) (va_up (hs_V S (hb_ix kc)) 1 0)) (T) := by
            refine hP.fin (fun k i hi => ?_) hP.h0 hP.s7
            by_cases q1 : k = 8 ∧ i = (hb_ix kc)
            · obtain ⟨rfl, qi⟩ := q1; obtain rfl := qi.symm
              rw [va_up_self]
              first | rfl | (simp only [hp_e, hp_e0, hp_hang0, va_up_self, ac_P_V, ac_D_V, ac_V_V, ac_M_V, ac_N_V, ac_Q_V, ac_C_V, ac_W_V, ac_U_V, ac_G_V, ac_np_V, ac_nw_V, ac_P_V, ac_D_V, ac_V_V, ac_M_V, ac_N_V, ac_Q_V, ac_C_V, ac_W_V, ac_U_V, ac_G_V, ac_np_V, ac_nw_V, va_up_ne _ _ hfg, va_up_ne _ _ hfg.symm]; done) | (simp only [hp_e, hp_e0, hp_hang0, va_up_self, ac_P_V, ac_D_V, ac_V_V, ac_M_V, ac_N_V, ac_Q_V, ac_C_V, ac_W_V, ac_U_V, ac_G_V, ac_np_V, ac_nw_V, ac_P_V, ac_D_V, ac_V_V, ac_M_V, ac_N_V, ac_Q_V, ac_C_V, ac_W_V, ac_U_V, ac_G_V, ac_np_V, ac_nw_V, va_up_ne _ _ hfg, va_up_ne _ _ hfg.symm]; rfl)
            by_cases q0 : k = 8 ∧ i = (hb_ix ka)
            · obtain ⟨rfl, qi⟩ := q0; obtain rfl := qi.symm
              rw [va_up_ne _ _ (hP.n (k := 8) (i := (hb_ix ka)) (k' := 8) (i' := (hb_ix kc)) hi2 hi8 (fun q => hfg q.2)), va_up_self]
              first | rfl | (simp only [hp_e, hp_e0, hp_hang0, va_up_self, ac_P_V, ac_D_V, ac_V_V, ac_M_V, ac_N_V, ac_Q_V, ac_C_V, ac_W_V, ac_U_V, ac_G_V, ac_np_V, ac_nw_V, ac_P_V, ac_D_V, ac_V_V, ac_M_V, ac_N_V, ac_Q_V, ac_C_V, ac_W_V, ac_U_V, ac_G_V, ac_np_V, ac_nw_V, va_up_ne _ _ hfg, va_up_ne _ _ hfg.symm]; done) | (simp only [hp_e, hp_e0, hp_hang0, va_up_self, ac_P_V, ac_D_V, ac_V_V, ac_M_V, ac_N_V, ac_Q_V, ac_C_V, ac_W_V, ac_U_V, ac_G_V, ac_np_V, ac_nw_V, ac_P_V, ac_D_V, ac_V_V, ac_M_V, ac_N_V, ac_Q_V, ac_C_V, ac_W_V, ac_U_V, ac_G_V, ac_np_V, ac_nw_V, va_up_ne _ _ hfg, va_up_ne _ _ hfg.symm]; rfl)
            rw [va_up_ne _ _ (hP.n (k := k) (i := i) (k' := 8) (i' := (hb_ix kc)) hi hi8 q1), va_up_ne _ _ (hP.n (k := k) (i := i) (k' := 8) (i' := (hb_ix ka)) hi hi2 q0)]
            exact (hP.m k i hi).trans (((sm_V (k := k) (i := i) _ _ (by omega)).trans (sm_V (k := k) (i := i) _ _ (by omega)))).symm
          have fr_hfin : ∀ a, b1 a → (va_up (va_up M (ad 8 (hb_ix ka)) (hw_ob 4 [.int (nI (hb_ix ka)), .int (hs_V S (hb_ix ka) 0), .int ((hs_V S (hb_ix ka) 1) + (hs_V S (hb_ix kc) 1)), .int (hb_max (hs_V S (hb_ix ka) 2) (hs_V S (hb_ix kc) 2)), .int ((hs_V S (hb_ix ka) 3) ||| (hs_V S (hb_ix kc) 3)), .int (hs_V S (hb_ix ka) 4)])) (ad 8 (hb_ix kc)) (hw_ob 4 [.int (nI (hb_ix kc)), .int (hs_V S (hb_ix kc) 0), .int (nI 0), .int (hs_V S (hb_ix kc) 2), .int (hs_V S (hb_ix kc) 3), .int (hs_V S (hb_ix kc) 4)])) a = M a := by
            intro a ha
            rw [va_up_ne _ _ (hP.f (k := 8) (i := (hb_ix kc)) hi8 ha), va_up_ne _ _ (hP.f (k := 8) (i := (hb_ix ka)) hi2 ha)]
          have hfin : hq_R Z b1 M ad (st_blend S ka kc) ((hs_V S (hb_ix ka) 1) + (hs_V S (hb_ix kc) 1)) (va_up (va_up M (ad 8 (hb_ix ka)) (hw_ob 4 [.int (nI (hb_ix ka)), .int (hs_V S (hb_ix ka) 0), .int ((hs_V S (hb_ix ka) 1) + (hs_V S (hb_ix kc) 1)), .int (hb_max (hs_V S (hb_ix ka) 2) (hs_V S (hb_ix kc) 2)), .int ((hs_V S (hb_ix ka) 3) ||| (hs_V S (hb_ix kc) 3)), .int (hs_V S (hb_ix ka) 4)])) (ad 8 (hb_ix kc)) (hw_ob 4 [.int (nI (hb_ix kc)), .int (hs_V S (hb_ix kc) 0), .int (nI 0), .int (hs_V S (hb_ix kc) 2), .int (hs_V S (hb_ix kc) 3), .int (hs_V S (hb_ix kc) 4)])) := hq_r (S' := hs_sV (hs_sV S (hb_ix ka) (va_up (va_up (va_up (hs_V S (hb_ix ka)) 1 (hs_V S (hb_ix ka) 1 + hs_V S (hb_ix kc) 1)) 2 (hb_max (hs_V S (hb_ix ka) 2) (hs_V S (hb_ix kc) 2))) 3 (hs_V S (hb_ix ka) 3 ||| hs_V S (hb_ix kc) 3))) (hb_ix kc) (va_up (hs_V S (hb_ix kc)) 1 0)) (T' := T) (by unfold st_blend; exact ((if_neg (fun q => q ⟨hk2, hk8⟩)).trans ((if_neg (fun q => q.elim c15 (fun q => q c37))).trans ((if_neg (fun q => q.elim (fun q => q c55) (fun q => q c64))).trans rfl)))) ok_hfin fr_hfin
          exact hret hI hfin (Nat.le_of_ble_eq_true rfl) (Nat.le_of_ble_eq_true rfl) dX5_blend_87
        · exact hthr hI th_X5_50_128_54 hl.1 dX5_blend_67 dX5_blend_70 dX5_blend_71 dX5_blend_73 dX5_blend_76 (Nat.le_of_ble_eq_true rfl) (Nat.le_of_ble_eq_true rfl) (Nat.le_of_ble_eq_true rfl) (Nat.le_of_ble_eq_true rfl) (hq_x (c := 3) (by unfold st_blend; exact (hq_el (fun q => q ⟨hk2, hk8⟩) (hq_el (fun q => q.elim c15 (fun q => q c37)) (hq_if (Or.inr c64) ⟨rfl, rfl⟩)))) ⟨by decide, rfl⟩ rfl) (Nat.le_of_ble_eq_true rfl) (Nat.le_of_ble_eq_true rfl)
    · exact hthr hI th_X5_96_123_100 hl.1 dX5_blend_40 dX5_blend_43 dX5_blend_44 dX5_blend_46 dX5_blend_49 (Nat.le_of_ble_eq_true rfl) (Nat.le_of_ble_eq_true rfl) (Nat.le_of_ble_eq_true rfl) (Nat.le_of_ble_eq_true rfl) (hq_x (c := 2) (by unfold st_blend; exact (hq_el (fun q => q ⟨hk2, hk8⟩) (hq_if (Or.inr c37) ⟨rfl, rfl⟩))) ⟨by decide, rfl⟩ rfl) (Nat.le_of_ble_eq_true rfl) (Nat.le_of_ble_eq_true rfl)
  · exact hthr hI th_X5_96_121_100 hl.1 dX5_blend_18 dX5_blend_21 dX5_blend_22 dX5_blend_24 dX5_blend_27 (Nat.le_of_ble_eq_true rfl) (Nat.le_of_ble_eq_true rfl) (Nat.le_of_ble_eq_true rfl) (Nat.le_of_ble_eq_true rfl) (hq_x (c := 2) (by unfold st_blend; exact (hq_el (fun q => q ⟨hk2, hk8⟩) (hq_if (Or.inl c15) ⟨rfl, rfl⟩))) ⟨by decide, rfl⟩ rfl) (Nat.le_of_ble_eq_true rfl) (Nat.le_of_ble_eq_true rfl)

set_option maxHeartbeats 4000000 in
set_option maxRecDepth 100000 in
theorem m_X5_wouldHold (l : Launch) (hst : l.stackTraces = false) (Z : hw_Z) (M : hw_M) (ad : hp_ad) (S : hs_S) (T : hp_T) (b1 : Nat → Prop) (ka : Int32) (kw : Int32) (hP : hp_ok Z b1 M ad S T) (hB : hs_b S) : vx_Met l yX5_wouldHold (hw_m yX5_wouldHold cX5_wouldHold 4 (some .int)) ({ frames := 9, cells := 6, slots := 36, locals := 190 } : Room) (va_Pc [.ref (ad 0 0), .int ka, .int kw] (hw_P Z M)) (hw_Qi Z (hq_R Z b1 M ad (st_wouldHold S ka kw))) (hw_X Z (hq_X ["java/lang/IndexOutOfBoundsException", "java/lang/IllegalArgumentException"] M S (st_wouldHold S ka kw))) 6 36 (hw_A Z) := by
  refine hw_xofi hst (by decide +kernel) rfl (Nat.le_of_ble_eq_true rfl) ?_
  intro p e s m below meth c ls Q hx hb hml hown hts hk hnm hI hl hret hxo hthr hthrW
  have hnp := hB.np
  have hnw := hB.nw
  have e0_0hP : M (ad 0 0) = hw_ob 6 [.ref (ad 0 1), .ref (ad 0 2), .ref (ad 0 3), .int (nI (hs_np S)), .int (nI (hs_nw S)), .int (hs_G S 0), .int (hs_G S 1), .ref (ad 0 4), .ref (ad 0 8)] := hP.m 0 0 (by decide)
  have e0_1hP : M (ad 0 1) = hw_ar Z 3 4 (fun j => some (ad 1 j)) := hP.m 0 1 (by decide)
  have e0_4hP : M (ad 0 4) = hw_ob 5 [.ref (ad 0 5), .ref (ad 0 6), .ref (ad 0 7)] := hP.m 0 4 (by decide)
  have e0_5hP : M (ad 0 5) = hw_al Z 8 T.1 := hP.m 0 5 (by decide)
  have e0_6hP : M (ad 0 6) = hw_al Z 8 T.2.1 := hP.m 0 6 (by decide)
  have e0_7hP : M (ad 0 7) = hw_al Z 8 T.2.2.1 := hP.m 0 7 (by decide)
  refine lv_aload_n hx hb dX5_wouldHold_0 rfl (lv_at hl 0 rfl) ?_
  refine lv_iload_n hx hb dX5_wouldHold_1 rfl (lv_at hl 1 rfl) ?_
  refine hw_xr hI hxo (hw_xV hx hb hml hown hts hk hI (m_X5_pieceAt l hst Z M (ad 0 0) (ad 0 1) (ad 0 2) (ad 0 3) (ad 0 4) (ad 0 8) (hs_np S) (hs_nw S) (hs_G S 0) (hs_G S 1) ka (ad 1) e0_0hP e0_1hP hnp) cv_X5_57 e0_0hP rfl rfl ⟨rfl, rfl⟩ ⟨(Nat.le_of_ble_eq_true rfl), (Nat.le_of_ble_eq_true rfl)⟩ rfl hl.1 rfl (Nat.le_of_ble_eq_true rfl) ⟨(Nat.le_of_ble_eq_true rfl), (Nat.le_of_ble_eq_true rfl)⟩ dX5_wouldHold_2) (hq_xc (c := 1) (fun h => by unfold st_wouldHold; exact (hq_if h ⟨rfl, rfl⟩)) ⟨by decide, rfl⟩) (Nat.le_of_ble_eq_true rfl) (Nat.le_of_ble_eq_true rfl) (fun r2 M2 H locs hR hI => ?_)
  obtain ⟨⟨hk2, rfl⟩, rfl⟩ := hR
  have hx2 := hb_okx (by omega) hk2
  have hi2 : hb_ix ka < 4 := by have := hx2.1; omega
  have e1_hb_ix_kahP : M (ad 1 (hb_ix ka)) = hw_ob 3 [.int (nI (hb_ix ka)), .ref (ad 2 (hb_ix ka)), .ref (ad 6 (hb_ix ka)), .int (hs_P S (hb_ix ka) 0), .int (nI (hs_D S (hb_ix ka))), .double (hs_U S (hb_ix ka)), .int (hs_P S (hb_ix ka) 3), hp_ref (ad 9) (hs_P S (hb_ix ka) 4), .int (hs_P S (hb_ix ka) 5), .int (hs_P S (hb_ix ka) 6), .int (hs_P S (hb_ix ka) 7), .int (hs_P S (hb_ix ka) 8), .int (hs_P S (hb_ix ka) 9)] := hP.m 1 (hb_ix ka) hi2
  have e2_hb_ix_kahP : M (ad 2 (hb_ix ka)) = hw_ob 5 [.ref (ad 3 (hb_ix ka)), .ref (ad 4 (hb_ix ka)), .ref (ad 5 (hb_ix ka))] := hP.m 2 (hb_ix ka) hi2
  have e3_hb_ix_kahP : M (ad 3 (hb_ix ka)) = hw_al Z 8 (hs_C S (hb_ix ka)) := hP.m 3 (hb_ix ka) hi2
  have e4_hb_ix_kahP : M (ad 4 (hb_ix ka)) = hw_al Z 8 (hb_hang (hs_C S (hb_ix ka))) := hP.m 4 (hb_ix ka) hi2
  have e5_hb_ix_kahP : M (ad 5 (hb_ix ka)) = hw_al Z 8 (hb_supp (hs_C S (hb_ix ka))) := hP.m 5 (hb_ix ka) hi2
  refine lv_astore_n (lv' := [(3, .ref (ad 1 (hb_ix ka))), (0, .ref (ad 0 0)), (1, .int ka), (2, .int kw)]) hx hb dX5_wouldHold_5 rfl hl (by decide) rfl (fun ls hl => ?_)
  refine lv_iload_n hx hb dX5_wouldHold_6 rfl (lv_at hl 3 rfl) ?_
  refine hw_xv hI hxo (hw_xS hx hb hml hown hts hk hI (m_X5_checkWay l hst Z M kw) cs_X5_81 ⟨rfl, rfl⟩ ⟨(Nat.le_of_ble_eq_true rfl), (Nat.le_of_ble_eq_true rfl)⟩ rfl hl.1 rfl (Nat.le_of_ble_eq_true rfl) ⟨(Nat.le_of_ble_eq_true rfl), (Nat.le_of_ble_eq_true rfl)⟩ dX5_wouldHold_7) (hq_xc (c := 2) (fun h => by unfold st_wouldHold; exact (hq_el (fun q => q hk2) (hq_if h ⟨rfl, rfl⟩))) ⟨by decide, rfl⟩) (Nat.le_of_ble_eq_true rfl) (Nat.le_of_ble_eq_true rfl) (fun M7 H locs hR hI => ?_)
  obtain ⟨hk7, rfl⟩ := hR
  have hx7 := hb_okx (by omega) hk7
  refine lv_aload_n hx hb dX5_wouldHold_10 rfl (lv_at hl 1 rfl) ?_
  refine hw_get hx hb hts hown hk hI fd_X5_30 e0_0hP rfl dX5_wouldHold_11 ?_
  refine lv_aload_n hx hb dX5_wouldHold_14 rfl (lv_at hl 0 rfl) ?_
  refine hw_get hx hb hts hown hk hI fd_X5_68 e1_hb_ix_kahP rfl dX5_wouldHold_15 ?_
  refine lv_iload_n hx hb dX5_wouldHold_18 rfl (lv_at hl 3 rfl) ?_
  refine W.eq (g2 := F0 m 19 ls [.int (nI (hb_ix kw)), .ref (ad 2 (hb_ix ka)), .ref (ad 0 4)]) (congrArg (fun z => F0 m 19 ls [.int z, .ref (ad 2 (hb_ix ka)), .ref (ad 0 4)]) hx7.2) ?_
  refine hw_cv hI (hw_rV hx hb hml hown hts hk hI (m_X4_becomeLaid l Z M (ad 0 4) (ad 0 5) (ad 0 6) (ad 0 7) T.1 T.2.1 T.2.2.1 (ad 2 (hb_ix ka)) (ad 3 (hb_ix ka)) (ad 4 (hb_ix ka)) (ad 5 (hb_ix ka)) (hs_C S (hb_ix ka)) (hb_ix kw) e0_4hP e0_5hP e0_6hP e0_7hP e2_hb_ix_kahP e3_hb_ix_kahP (hP.n (k := 0) (i := 5) (k' := 0) (i' := 6) (by decide) (by decide) (by decide)) (hP.n (k := 0) (i := 5) (k' := 0) (i' := 7) (by decide) (by decide) (by decide)) (hP.n (k := 0) (i := 6) (k' := 0) (i' := 7) (by decide) (by decide) (by decide)) (hP.n (k := 3) (i := (hb_ix ka)) (k' := 0) (i' := 5) hi2 (by decide) (fun q => absurd q.1 (by decide))) (hP.n (k := 2) (i := (hb_ix ka)) (k' := 0) (i' := 4) hi2 (by decide) (fun q => absurd q.1 (by decide))) hP.h0 hP.s7 hx7.1) cv_X5_84 e0_4hP rfl rfl ⟨rfl, rfl⟩ ⟨(Nat.le_of_ble_eq_true rfl), (Nat.le_of_ble_eq_true rfl)⟩ rfl hl.1 rfl (Nat.le_of_ble_eq_true rfl) ⟨(Nat.le_of_ble_eq_true rfl), (Nat.le_of_ble_eq_true rfl)⟩ dX5_wouldHold_19) (fun M19 H locs hR hI => ?_)
  subst hR
  refine lv_aload_n hx hb dX5_wouldHold_22 rfl (lv_at hl 1 rfl) ?_
  refine hw_get hx hb hts hown hk hI fd_X5_30 (hw_up (hw_up (hw_up e0_0hP (hP.n (k := 0) (i := 0) (k' := 0) (i' := 5) (by decide) (by decide) (by decide))) (hP.n (k := 0) (i := 0) (k' := 0) (i' := 6) (by decide) (by decide) (by decide))) (hP.n (k := 0) (i := 0) (k' := 0) (i' := 7) (by decide) (by decide) (by decide))) rfl dX5_wouldHold_23 ?_
  refine hw_ci hI (hw_rV hx hb hml hown hts hk hI (m_X4_supportCount l Z (va_up (va_up (va_up M (ad 0 5) (hw_al Z 8 (hb_laid (hs_C S (hb_ix ka)) (hb_ix kw)))) (ad 0 6) (hw_al Z 8 (hb_hang (hb_laid (hs_C S (hb_ix ka)) (hb_ix kw))))) (ad 0 7) (hw_al Z 8 (hb_supp (hb_laid (hs_C S (hb_ix ka)) (hb_ix kw))))) (ad 0 4) (ad 0 5) (ad 0 6) (ad 0 7) (hb_supp (hb_laid (hs_C S (hb_ix ka)) (hb_ix kw))) (hw_up (hw_up (hw_up e0_4hP (hP.n (k := 0) (i := 4) (k' := 0) (i' := 5) (by decide) (by decide) (by decide))) (hP.n (k := 0) (i := 4) (k' := 0) (i' := 6) (by decide) (by decide) (by decide))) (hP.n (k := 0) (i := 4) (k' := 0) (i' := 7) (by decide) (by decide) (by decide))) (hw_us _ _ _)) cv_X5_264 (hw_up (hw_up (hw_up e0_4hP (hP.n (k := 0) (i := 4) (k' := 0) (i' := 5) (by decide) (by decide) (by decide))) (hP.n (k := 0) (i := 4) (k' := 0) (i' := 6) (by decide) (by decide) (by decide))) (hP.n (k := 0) (i := 4) (k' := 0) (i' := 7) (by decide) (by decide) (by decide))) rfl rfl ⟨rfl, rfl⟩ ⟨(Nat.le_of_ble_eq_true rfl), (Nat.le_of_ble_eq_true rfl)⟩ rfl hl.1 rfl (Nat.le_of_ble_eq_true rfl) ⟨(Nat.le_of_ble_eq_true rfl), (Nat.le_of_ble_eq_true rfl)⟩ dX5_wouldHold_26) (fun r26 M26 H locs hR hI => ?_)
  obtain ⟨rfl, rfl⟩ := hR
  have ok_hfin : hp_ok Z b1 (va_up (va_up (va_up M (ad 0 5) (hw_al Z 8 (hb_laid (hs_C S (hb_ix ka)) (hb_ix kw)))) (ad 0 6) (hw_al Z 8 (hb_hang (hb_laid (hs_C S (hb_ix ka)) (hb_ix kw))))) (ad 0 7) (hw_al Z 8 (hb_supp (hb_laid (hs_C S (hb_ix ka)) (hb_ix kw))))) ad (S) ((hb_laid (hs_C S (hb_ix ka)) (hb_ix kw), hb_hang (hb_laid (hs_C S (hb_ix ka)) (hb_ix kw)), hb_supp (hb_laid (hs_C S (hb_ix ka)) (hb_ix kw)), T.2.2.2)) := by
    refine hP.fin (fun k i hi => ?_) rfl rfl
    by_cases q2 : k = 0 ∧ i = 7
    · obtain ⟨rfl, qi⟩ := q2; obtain rfl := qi.symm
      rw [va_up_self]
      first | rfl | (simp only [hp_e, hp_e0, hp_hang0, va_up_self]; done) | (simp only [hp_e, hp_e0, hp_hang0, va_up_self]; rfl)
    by_cases q1 : k = 0 ∧ i = 6
    · obtain ⟨rfl, qi⟩ := q1; obtain rfl := qi.symm
      rw [va_up_ne _ _ (hP.n (k := 0) (i := 6) (k' := 0) (i' := 7) (by decide) (by decide) (by decide)), va_up_self]
      first | rfl | (simp only [hp_e, hp_e0, hp_hang0, va_up_self]; done) | (simp only [hp_e, hp_e0, hp_hang0, va_up_self]; rfl)
    by_cases q0 : k = 0 ∧ i = 5
    · obtain ⟨rfl, qi⟩ := q0; obtain rfl := qi.symm
      rw [va_up_ne _ _ (hP.n (k := 0) (i := 5) (k' := 0) (i' := 7) (by decide) (by decide) (by decide)), va_up_ne _ _ (hP.n (k := 0) (i := 5) (k' := 0) (i' := 6) (by decide) (by decide) (by decide)), va_up_self]
      first | rfl | (simp only [hp_e, hp_e0, hp_hang0, va_up_self]; done) | (simp only [hp_e, hp_e0, hp_hang0, va_up_self]; rfl)
    rw [va_up_ne _ _ (hP.n (k := k) (i := i) (k' := 0) (i' := 7) hi (by decide) q2), va_up_ne _ _ (hP.n (k := k) (i := i) (k' := 0) (i' := 6) hi (by decide) q1), va_up_ne _ _ (hP.n (k := k) (i := i) (k' := 0) (i' := 5) hi (by decide) q0)]
    exact (hP.m k i hi).trans ((sm_Ts (k := k) (i := i) (by omega))).symm
  have fr_hfin : ∀ a, b1 a → (va_up (va_up (va_up M (ad 0 5) (hw_al Z 8 (hb_laid (hs_C S (hb_ix ka)) (hb_ix kw)))) (ad 0 6) (hw_al Z 8 (hb_hang (hb_laid (hs_C S (hb_ix ka)) (hb_ix kw))))) (ad 0 7) (hw_al Z 8 (hb_supp (hb_laid (hs_C S (hb_ix ka)) (hb_ix kw))))) a = M a := by
    intro a ha
    rw [va_up_ne _ _ (hP.f (k := 0) (i := 7) (by decide) ha), va_up_ne _ _ (hP.f (k := 0) (i := 6) (by decide) ha), va_up_ne _ _ (hP.f (k := 0) (i := 5) (by decide) ha)]
  have hfin : hq_R Z b1 M ad (st_wouldHold S ka kw) (nI (hb_sm (fun k => hb_pc ((hb_supp (hb_laid (hs_C S (hb_ix ka)) (hb_ix kw))) k)) 8)) (va_up (va_up (va_up M (ad 0 5) (hw_al Z 8 (hb_laid (hs_C S (hb_ix ka)) (hb_ix kw)))) (ad 0 6) (hw_al Z 8 (hb_hang (hb_laid (hs_C S (hb_ix ka)) (hb_ix kw))))) (ad 0 7) (hw_al Z 8 (hb_supp (hb_laid (hs_C S (hb_ix ka)) (hb_ix kw))))) := hq_r (S' := S) (T' := (hb_laid (hs_C S (hb_ix ka)) (hb_ix kw), hb_hang (hb_laid (hs_C S (hb_ix ka)) (hb_ix kw)), hb_supp (hb_laid (hs_C S (hb_ix ka)) (hb_ix kw)), T.2.2.2)) (by unfold st_wouldHold; exact ((if_neg (fun q => q hk2)).trans ((if_neg (fun q => q hk7)).trans rfl))) ok_hfin fr_hfin
  exact hret hI hfin (Nat.le_of_ble_eq_true rfl) (Nat.le_of_ble_eq_true rfl) dX5_wouldHold_29

set_option maxHeartbeats 4000000 in
set_option maxRecDepth 100000 in
theorem m_X5_relieve (l : Launch) (hst : l.stackTraces = false) (Z : hw_Z) (M : hw_M) (ad : hp_ad) (S : hs_S) (T : hp_T) (b1 : Nat → Prop) (ka : Int32) (hP : hp_ok Z b1 M ad S T) (hB : hs_b S) : vx_Met l yX5_relieve (hw_m yX5_relieve cX5_relieve 3 (some .int)) ({ frames := 9, cells := 6, slots := 36, locals := 190 } : Room) (va_Pc [.ref (ad 0 0), .int ka] (hw_P Z M)) (hw_Qi Z (hq_R Z b1 M ad (st_relieve S ka))) (hw_X Z (hq_X ["java/lang/IndexOutOfBoundsException", "java/lang/IllegalStateException"] M S (st_relieve S ka))) 6 36 (hw_A Z) := by
  refine hw_xofi hst (by decide +kernel) rfl (Nat.le_of_ble_eq_true rfl) ?_
  intro p e s m below meth c ls Q hx hb hml hown hts hk hnm hI hl hret hxo hthr hthrW
  have hnp := hB.np
  have hnw := hB.nw
  have e0_0hP : M (ad 0 0) = hw_ob 6 [.ref (ad 0 1), .ref (ad 0 2), .ref (ad 0 3), .int (nI (hs_np S)), .int (nI (hs_nw S)), .int (hs_G S 0), .int (hs_G S 1), .ref (ad 0 4), .ref (ad 0 8)] := hP.m 0 0 (by decide)
  have e0_1hP : M (ad 0 1) = hw_ar Z 3 4 (fun j => some (ad 1 j)) := hP.m 0 1 (by decide)
  refine lv_aload_n hx hb dX5_relieve_0 rfl (lv_at hl 0 rfl) ?_
  refine lv_iload_n hx hb dX5_relieve_1 rfl (lv_at hl 1 rfl) ?_
  refine hw_xr hI hxo (hw_xV hx hb hml hown hts hk hI (m_X5_pieceAt l hst Z M (ad 0 0) (ad 0 1) (ad 0 2) (ad 0 3) (ad 0 4) (ad 0 8) (hs_np S) (hs_nw S) (hs_G S 0) (hs_G S 1) ka (ad 1) e0_0hP e0_1hP hnp) cv_X5_57 e0_0hP rfl rfl ⟨rfl, rfl⟩ ⟨(Nat.le_of_ble_eq_true rfl), (Nat.le_of_ble_eq_true rfl)⟩ rfl hl.1 rfl (Nat.le_of_ble_eq_true rfl) ⟨(Nat.le_of_ble_eq_true rfl), (Nat.le_of_ble_eq_true rfl)⟩ dX5_relieve_2) (hq_xc (c := 1) (fun h => by unfold st_relieve; exact (hq_if h ⟨rfl, rfl⟩)) ⟨by decide, rfl⟩) (Nat.le_of_ble_eq_true rfl) (Nat.le_of_ble_eq_true rfl) (fun r2 M2 H locs hR hI => ?_)
  obtain ⟨⟨hk2, rfl⟩, rfl⟩ := hR
  have hx2 := hb_okx (by omega) hk2
  have hi2 : hb_ix ka < 4 := by have := hx2.1; omega
  have e1_hb_ix_kahP : M (ad 1 (hb_ix ka)) = hw_ob 3 [.int (nI (hb_ix ka)), .ref (ad 2 (hb_ix ka)), .ref (ad 6 (hb_ix ka)), .int (hs_P S (hb_ix ka) 0), .int (nI (hs_D S (hb_ix ka))), .double (hs_U S (hb_ix ka)), .int (hs_P S (hb_ix ka) 3), hp_ref (ad 9) (hs_P S (hb_ix ka) 4), .int (hs_P S (hb_ix ka) 5), .int (hs_P S (hb_ix ka) 6), .int (hs_P S (hb_ix ka) 7), .int (hs_P S (hb_ix ka) 8), .int (hs_P S (hb_ix ka) 9)] := hP.m 1 (hb_ix ka) hi2
  have e6_hb_ix_kahP : M (ad 6 (hb_ix ka)) = hw_ob 2 [.ref (ad 7 (hb_ix ka)), .int (hs_P S (hb_ix ka) 1), .int (hs_P S (hb_ix ka) 2)] := hP.m 6 (hb_ix ka) hi2
  refine lv_astore_n (lv' := [(2, .ref (ad 1 (hb_ix ka))), (0, .ref (ad 0 0)), (1, .int ka)]) hx hb dX5_relieve_5 rfl hl (by decide) rfl (fun ls hl => ?_)
  refine lv_aload_n hx hb dX5_relieve_6 rfl (lv_at hl 0 rfl) ?_
  refine hw_get hx hb hts hown hk hI fd_X5_171 e1_hb_ix_kahP rfl dX5_relieve_7 ?_
  refine lv_iconst (v := nI 2) hx hb dX5_relieve_10 (by decide) ?_
  refine lv_icmp_eq (tgt := 24) hx hb dX5_relieve_11 (by decide) (fun c11 => ?_) (fun c11 => ?_)
  · refine lv_aload_n hx hb dX5_relieve_24 rfl (lv_at hl 0 rfl) ?_
    refine lv_iconst (v := nI 3) hx hb dX5_relieve_25 (by decide) ?_
    refine hw_put (fs' := [.int (nI (hb_ix ka)), .ref (ad 2 (hb_ix ka)), .ref (ad 6 (hb_ix ka)), .int (nI 3), .int (nI (hs_D S (hb_ix ka))), .double (hs_U S (hb_ix ka)), .int (hs_P S (hb_ix ka) 3), hp_ref (ad 9) (hs_P S (hb_ix ka) 4), .int (hs_P S (hb_ix ka) 5), .int (hs_P S (hb_ix ka) 6), .int (hs_P S (hb_ix ka) 7), .int (hs_P S (hb_ix ka) 8), .int (hs_P S (hb_ix ka) 9)]) hx hb hts hown hk hI fp_X5_171 e1_hb_ix_kahP (Nat.le_of_ble_eq_true rfl) rfl rfl rfl dX5_relieve_26 (fun H locs hI => ?_)
    refine lv_aload_n hx hb dX5_relieve_29 rfl (lv_at hl 0 rfl) ?_
    refine hw_get hx hb hts hown hk hI fd_X5_198 (hw_us _ _ _) rfl dX5_relieve_30 ?_
    refine hw_get hx hb hts hown hk hI fd_X5_229 (hw_up e6_hb_ix_kahP (hP.n (k := 6) (i := (hb_ix ka)) (k' := 1) (i' := (hb_ix ka)) hi2 hi2 (fun q => absurd q.1 (by decide)))) rfl dX5_relieve_33 ?_
    have ok_hfin : hp_ok Z b1 (va_up M (ad 1 (hb_ix ka)) (hw_ob 3 [.int (nI (hb_ix ka)), .ref (ad 2 (hb_ix ka)), .ref (ad 6 (hb_ix ka)), .int (nI 3), .int (nI (hs_D S (hb_ix ka))), .double (hs_U S (hb_ix ka)), .int (hs_P S (hb_ix ka) 3), hp_ref (ad 9) (hs_P S (hb_ix ka) 4), .int (hs_P S (hb_ix ka) 5), .int (hs_P S (hb_ix ka) 6), .int (hs_P S (hb_ix ka) 7), .int (hs_P S (hb_ix ka) 8), .int (hs_P S (hb_ix ka) 9)])) ad (hs_sP S (hb_ix ka) (va_up (hs_P S (hb_ix ka)) 0 (nI 3))) (T) := by
      refine hP.fin (fun k i hi => ?_) hP.h0 hP.s7
      by_cases q0 : k = 1 ∧ i = (hb_ix ka)
      · obtain ⟨rfl, qi⟩ := q0; obtain rfl := qi.symm
        rw [va_up_self]
        first | rfl | (simp only [hp_e, hp_e0, hp_hang0, va_up_self, ac_P_P, ac_D_P, ac_V_P, ac_M_P, ac_N_P, ac_Q_P, ac_C_P, ac_W_P, ac_U_P, ac_G_P, ac_np_P, ac_nw_P]; done) | (simp only [hp_e, hp_e0, hp_hang0, va_up_self, ac_P_P, ac_D_P, ac_V_P, ac_M_P, ac_N_P, ac_Q_P, ac_C_P, ac_W_P, ac_U_P, ac_G_P, ac_np_P, ac_nw_P]; rfl) | (simp only [hp_e, hp_e0, hp_hang0, va_up_self, ac_P_P, ac_D_P, ac_V_P, ac_M_P, ac_N_P, ac_Q_P, ac_C_P, ac_W_P, ac_U_P, ac_G_P, ac_np_P, ac_nw_P]; refine hw_ob13 ?_ ?_ ?_ ?_ ?_ ?_ ?_ ?_ ?_ ?_ ?_ ?_ ?_ <;> first | rfl | exact (hp_rn (by first | rfl | assumption)).symm | exact (hp_rr (by rfl) (by assumption)).symm)
      by_cases qn0 : k = 6 ∧ i = (hb_ix ka)
      · obtain ⟨rfl, qi⟩ := qn0; obtain rfl := qi.symm
        rw [va_up_ne _ _ (hP.n (k := 6) (i := (hb_ix ka)) (k' := 1) (i' := (hb_ix ka)) hi2 hi2 (fun q => absurd q.1 (by decide)))]
        refine (hP.m 6 (hb_ix ka) hi).trans ?_
        first | rfl | (simp only [hp_e, hp_e0, hp_hang0, va_up_self, ac_P_P, ac_D_P, ac_V_P, ac_M_P, ac_N_P, ac_Q_P, ac_C_P, ac_W_P, ac_U_P, ac_G_P, ac_np_P, ac_nw_P]; done) | (simp only [hp_e, hp_e0, hp_hang0, va_up_self, ac_P_P, ac_D_P, ac_V_P, ac_M_P, ac_N_P, ac_Q_P, ac_C_P, ac_W_P, ac_U_P, ac_G_P, ac_np_P, ac_nw_P]; rfl)
      rw [va_up_ne _ _ (hP.n (k := k) (i := i) (k' := 1) (i' := (hb_ix ka)) hi hi2 q0)]
      exact (hP.m k i hi).trans ((sm_P (k := k) (i := i) _ _ (by omega))).symm
    have fr_hfin : ∀ a, b1 a → (va_up M (ad 1 (hb_ix ka)) (hw_ob 3 [.int (nI (hb_ix ka)), .ref (ad 2 (hb_ix ka)), .ref (ad 6 (hb_ix ka)), .int (nI 3), .int (nI (hs_D S (hb_ix ka))), .double (hs_U S (hb_ix ka)), .int (hs_P S (hb_ix ka) 3), hp_ref (ad 9) (hs_P S (hb_ix ka) 4), .int (hs_P S (hb_ix ka) 5), .int (hs_P S (hb_ix ka) 6), .int (hs_P S (hb_ix ka) 7), .int (hs_P S (hb_ix ka) 8), .int (hs_P S (hb_ix ka) 9)])) a = M a := by
      intro a ha
      rw [va_up_ne _ _ (hP.f (k := 1) (i := (hb_ix ka)) hi2 ha)]
    have hfin : hq_R Z b1 M ad (st_relieve S ka) (hs_P S (hb_ix ka) 1) (va_up M (ad 1 (hb_ix ka)) (hw_ob 3 [.int (nI (hb_ix ka)), .ref (ad 2 (hb_ix ka)), .ref (ad 6 (hb_ix ka)), .int (nI 3), .int (nI (hs_D S (hb_ix ka))), .double (hs_U S (hb_ix ka)), .int (hs_P S (hb_ix ka) 3), hp_ref (ad 9) (hs_P S (hb_ix ka) 4), .int (hs_P S (hb_ix ka) 5), .int (hs_P S (hb_ix ka) 6), .int (hs_P S (hb_ix ka) 7), .int (hs_P S (hb_ix ka) 8), .int (hs_P S (hb_ix ka) 9)])) := hq_r (S' := hs_sP S (hb_ix ka) (va_up (hs_P S (hb_ix ka)) 0 (nI 3))) (T' := T) (by unfold st_relieve; exact ((if_neg (fun q => q hk2)).trans ((if_neg (fun q => q c11)).trans rfl))) ok_hfin fr_hfin
    exact hret hI hfin (Nat.le_of_ble_eq_true rfl) (Nat.le_of_ble_eq_true rfl) dX5_relieve_36
  · exact hthr hI th_X5_50_227_54 hl.1 dX5_relieve_14 dX5_relieve_17 dX5_relieve_18 dX5_relieve_20 dX5_relieve_23 (Nat.le_of_ble_eq_true rfl) (Nat.le_of_ble_eq_true rfl) (Nat.le_of_ble_eq_true rfl) (Nat.le_of_ble_eq_true rfl) (hq_x (c := 2) (by unfold st_relieve; exact (hq_el (fun q => q hk2) (hq_if c11 ⟨rfl, rfl⟩))) ⟨by decide, rfl⟩ rfl) (Nat.le_of_ble_eq_true rfl) (Nat.le_of_ble_eq_true rfl)

set_option maxHeartbeats 4000000 in
set_option maxRecDepth 100000 in
theorem m_X5_saw (l : Launch) (hst : l.stackTraces = false) (Z : hw_Z) (M : hw_M) (ad : hp_ad) (S : hs_S) (T : hp_T) (b1 : Nat → Prop) (ka : Int32) (hP : hp_ok Z b1 M ad S T) (hB : hs_b S) : vx_Met l yX5_saw (hw_m yX5_saw cX5_saw 3 (some .boolean)) ({ frames := 9, cells := 6, slots := 36, locals := 190 } : Room) (va_Pc [.ref (ad 0 0), .int ka] (hw_P Z M)) (hw_Qi Z (hq_R Z b1 M ad (st_saw S ka))) (hw_X Z (hq_X ["java/lang/IndexOutOfBoundsException", "java/lang/IllegalStateException"] M S (st_saw S ka))) 6 36 (hw_A Z) := by
  refine hw_xofz hst (by decide +kernel) rfl (Nat.le_of_ble_eq_true rfl) ?_
  intro p e s m below meth c ls Q hx hb hml hown hts hk hnm hI hl hret hxo hthr hthrW
  have hnp := hB.np
  have hnw := hB.nw
  have e0_0hP : M (ad 0 0) = hw_ob 6 [.ref (ad 0 1), .ref (ad 0 2), .ref (ad 0 3), .int (nI (hs_np S)), .int (nI (hs_nw S)), .int (hs_G S 0), .int (hs_G S 1), .ref (ad 0 4), .ref (ad 0 8)] := hP.m 0 0 (by decide)
  have e0_1hP : M (ad 0 1) = hw_ar Z 3 4 (fun j => some (ad 1 j)) := hP.m 0 1 (by decide)
  refine lv_aload_n hx hb dX5_saw_0 rfl (lv_at hl 0 rfl) ?_
  refine lv_iload_n hx hb dX5_saw_1 rfl (lv_at hl 1 rfl) ?_
  refine hw_xr hI hxo (hw_xV hx hb hml hown hts hk hI (m_X5_pieceAt l hst Z M (ad 0 0) (ad 0 1) (ad 0 2) (ad 0 3) (ad 0 4) (ad 0 8) (hs_np S) (hs_nw S) (hs_G S 0) (hs_G S 1) ka (ad 1) e0_0hP e0_1hP hnp) cv_X5_57 e0_0hP rfl rfl ⟨rfl, rfl⟩ ⟨(Nat.le_of_ble_eq_true rfl), (Nat.le_of_ble_eq_true rfl)⟩ rfl hl.1 rfl (Nat.le_of_ble_eq_true rfl) ⟨(Nat.le_of_ble_eq_true rfl), (Nat.le_of_ble_eq_true rfl)⟩ dX5_saw_2) (hq_xc (c := 1) (fun h => by unfold st_saw; exact (hq_if h ⟨rfl, rfl⟩)) ⟨by decide, rfl⟩) (Nat.le_of_ble_eq_true rfl) (Nat.le_of_ble_eq_true rfl) (fun r2 M2 H locs hR hI => ?_)
  obtain ⟨⟨hk2, rfl⟩, rfl⟩ := hR
  have hx2 := hb_okx (by omega) hk2
  have hi2 : hb_ix ka < 4 := by have := hx2.1; omega
  have e1_hb_ix_kahP : M (ad 1 (hb_ix ka)) = hw_ob 3 [.int (nI (hb_ix ka)), .ref (ad 2 (hb_ix ka)), .ref (ad 6 (hb_ix ka)), .int (hs_P S (hb_ix ka) 0), .int (nI (hs_D S (hb_ix ka))), .double (hs_U S (hb_ix ka)), .int (hs_P S (hb_ix ka) 3), hp_ref (ad 9) (hs_P S (hb_ix ka) 4), .int (hs_P S (hb_ix ka) 5), .int (hs_P S (hb_ix ka) 6), .int (hs_P S (hb_ix ka) 7), .int (hs_P S (hb_ix ka) 8), .int (hs_P S (hb_ix ka) 9)] := hP.m 1 (hb_ix ka) hi2
  have e6_hb_ix_kahP : M (ad 6 (hb_ix ka)) = hw_ob 2 [.ref (ad 7 (hb_ix ka)), .int (hs_P S (hb_ix ka) 1), .int (hs_P S (hb_ix ka) 2)] := hP.m 6 (hb_ix ka) hi2
  refine lv_astore_n (lv' := [(2, .ref (ad 1 (hb_ix ka))), (0, .ref (ad 0 0)), (1, .int ka)]) hx hb dX5_saw_5 rfl hl (by decide) rfl (fun ls hl => ?_)
  refine lv_aload_n hx hb dX5_saw_6 rfl (lv_at hl 0 rfl) ?_
  refine hw_get hx hb hts hown hk hI fd_X5_171 e1_hb_ix_kahP rfl dX5_saw_7 ?_
  refine lv_iconst (v := nI 2) hx hb dX5_saw_10 (by decide) ?_
  refine lv_icmp_eq (tgt := 32) hx hb dX5_saw_11 (by decide) (fun c11 => ?_) (fun c11 => ?_)
  · refine lv_aload_n hx hb dX5_saw_32 rfl (lv_at hl 0 rfl) ?_
    refine lv_aload_n hx hb dX5_saw_33 rfl (lv_at hl 0 rfl) ?_
    refine hw_get hx hb hts hown hk hI fd_X5_171 e1_hb_ix_kahP rfl dX5_saw_34 ?_
    refine lv_iconst (v := nI 3) hx hb dX5_saw_37 (by decide) ?_
    refine lv_icmp_ne (tgt := 45) hx hb dX5_saw_38 (by decide) (fun c38 => ?_) (fun c38 => ?_)
    · refine lv_bipush (v := nI 6) hx hb dX5_saw_45 (by decide) ?_
      refine hw_put (fs' := [.int (nI (hb_ix ka)), .ref (ad 2 (hb_ix ka)), .ref (ad 6 (hb_ix ka)), .int (nI 6), .int (nI (hs_D S (hb_ix ka))), .double (hs_U S (hb_ix ka)), .int (hs_P S (hb_ix ka) 3), hp_ref (ad 9) (hs_P S (hb_ix ka) 4), .int (hs_P S (hb_ix ka) 5), .int (hs_P S (hb_ix ka) 6), .int (hs_P S (hb_ix ka) 7), .int (hs_P S (hb_ix ka) 8), .int (hs_P S (hb_ix ka) 9)]) hx hb hts hown hk hI fp_X5_171 e1_hb_ix_kahP (Nat.le_of_ble_eq_true rfl) rfl rfl rfl dX5_saw_47 (fun H locs hI => ?_)
      refine lv_aload_n hx hb dX5_saw_50 rfl (lv_at hl 0 rfl) ?_
      refine hw_get hx hb hts hown hk hI fd_X5_171 (hw_us _ _ _) rfl dX5_saw_51 ?_
      refine lv_iconst (v := nI 4) hx hb dX5_saw_54 (by decide) ?_
      refine lv_icmp_ne (tgt := 62) hx hb dX5_saw_55 (by decide) (fun _ => ?_) (fun hc => absurd hc (by decide))
      refine lv_iconst (v := nI 0) hx hb dX5_saw_62 (by decide) ?_
      have ok_hfin : hp_ok Z b1 (va_up M (ad 1 (hb_ix ka)) (hw_ob 3 [.int (nI (hb_ix ka)), .ref (ad 2 (hb_ix ka)), .ref (ad 6 (hb_ix ka)), .int (nI 6), .int (nI (hs_D S (hb_ix ka))), .double (hs_U S (hb_ix ka)), .int (hs_P S (hb_ix ka) 3), hp_ref (ad 9) (hs_P S (hb_ix ka) 4), .int (hs_P S (hb_ix ka) 5), .int (hs_P S (hb_ix ka) 6), .int (hs_P S (hb_ix ka) 7), .int (hs_P S (hb_ix ka) 8), .int (hs_P S (hb_ix ka) 9)])) ad (hs_sP S (hb_ix ka) (va_up (hs_P S (hb_ix ka)) 0 (nI 6))) (T) := by
        refine hP.fin (fun k i hi => ?_) hP.h0 hP.s7
        by_cases q0 : k = 1 ∧ i = (hb_ix ka)
        · obtain ⟨rfl, qi⟩ := q0; obtain rfl := qi.symm
          rw [va_up_self]
          first | rfl | (simp only [hp_e, hp_e0, hp_hang0, va_up_self, ac_P_P, ac_D_P, ac_V_P, ac_M_P, ac_N_P, ac_Q_P, ac_C_P, ac_W_P, ac_U_P, ac_G_P, ac_np_P, ac_nw_P]; done) | (simp only [hp_e, hp_e0, hp_hang0, va_up_self, ac_P_P, ac_D_P, ac_V_P, ac_M_P, ac_N_P, ac_Q_P, ac_C_P, ac_W_P, ac_U_P, ac_G_P, ac_np_P, ac_nw_P]; rfl) | (simp only [hp_e, hp_e0, hp_hang0, va_up_self, ac_P_P, ac_D_P, ac_V_P, ac_M_P, ac_N_P, ac_Q_P, ac_C_P, ac_W_P, ac_U_P, ac_G_P, ac_np_P, ac_nw_P]; refine hw_ob13 ?_ ?_ ?_ ?_ ?_ ?_ ?_ ?_ ?_ ?_ ?_ ?_ ?_ <;> first | rfl | exact (hp_rn (by first | rfl | assumption)).symm | exact (hp_rr (by rfl) (by assumption)).symm)
        by_cases qn0 : k = 6 ∧ i = (hb_ix ka)
        · obtain ⟨rfl, qi⟩ := qn0; obtain rfl := qi.symm
          rw [va_up_ne _ _ (hP.n (k := 6) (i := (hb_ix ka)) (k' := 1) (i' := (hb_ix ka)) hi2 hi2 (fun q => absurd q.1 (by decide)))]
          refine (hP.m 6 (hb_ix ka) hi).trans ?_
          first | rfl | (simp only [hp_e, hp_e0, hp_hang0, va_up_self, ac_P_P, ac_D_P, ac_V_P, ac_M_P, ac_N_P, ac_Q_P, ac_C_P, ac_W_P, ac_U_P, ac_G_P, ac_np_P, ac_nw_P]; done) | (simp only [hp_e, hp_e0, hp_hang0, va_up_self, ac_P_P, ac_D_P, ac_V_P, ac_M_P, ac_N_P, ac_Q_P, ac_C_P, ac_W_P, ac_U_P, ac_G_P, ac_np_P, ac_nw_P]; rfl)
        rw [va_up_ne _ _ (hP.n (k := k) (i := i) (k' := 1) (i' := (hb_ix ka)) hi hi2 q0)]
        exact (hP.m k i hi).trans ((sm_P (k := k) (i := i) _ _ (by omega))).symm
      have fr_hfin : ∀ a, b1 a → (va_up M (ad 1 (hb_ix ka)) (hw_ob 3 [.int (nI (hb_ix ka)), .ref (ad 2 (hb_ix ka)), .ref (ad 6 (hb_ix ka)), .int (nI 6), .int (nI (hs_D S (hb_ix ka))), .double (hs_U S (hb_ix ka)), .int (hs_P S (hb_ix ka) 3), hp_ref (ad 9) (hs_P S (hb_ix ka) 4), .int (hs_P S (hb_ix ka) 5), .int (hs_P S (hb_ix ka) 6), .int (hs_P S (hb_ix ka) 7), .int (hs_P S (hb_ix ka) 8), .int (hs_P S (hb_ix ka) 9)])) a = M a := by
        intro a ha
        rw [va_up_ne _ _ (hP.f (k := 1) (i := (hb_ix ka)) hi2 ha)]
      have hfin : hq_R Z b1 M ad (st_saw S ka) (nI 0) (va_up M (ad 1 (hb_ix ka)) (hw_ob 3 [.int (nI (hb_ix ka)), .ref (ad 2 (hb_ix ka)), .ref (ad 6 (hb_ix ka)), .int (nI 6), .int (nI (hs_D S (hb_ix ka))), .double (hs_U S (hb_ix ka)), .int (hs_P S (hb_ix ka) 3), hp_ref (ad 9) (hs_P S (hb_ix ka) 4), .int (hs_P S (hb_ix ka) 5), .int (hs_P S (hb_ix ka) 6), .int (hs_P S (hb_ix ka) 7), .int (hs_P S (hb_ix ka) 8), .int (hs_P S (hb_ix ka) 9)])) := hq_r (S' := hs_sP S (hb_ix ka) (va_up (hs_P S (hb_ix ka)) 0 (nI 6))) (T' := T) (by unfold st_saw; exact ((if_neg (fun q => q hk2)).trans ((if_neg (fun q => q.1 c11)).trans ((if_neg c38).trans rfl)))) ok_hfin fr_hfin
      exact hret hI (Or.inl rfl) hfin (Nat.le_of_ble_eq_true rfl) (Nat.le_of_ble_eq_true rfl) dX5_saw_63
    · refine lv_iconst (v := nI 4) hx hb dX5_saw_41 (by decide) ?_
      refine lv_goto (tgt := 47) hx hb dX5_saw_42 (by decide) ?_
      refine hw_put (fs' := [.int (nI (hb_ix ka)), .ref (ad 2 (hb_ix ka)), .ref (ad 6 (hb_ix ka)), .int (nI 4), .int (nI (hs_D S (hb_ix ka))), .double (hs_U S (hb_ix ka)), .int (hs_P S (hb_ix ka) 3), hp_ref (ad 9) (hs_P S (hb_ix ka) 4), .int (hs_P S (hb_ix ka) 5), .int (hs_P S (hb_ix ka) 6), .int (hs_P S (hb_ix ka) 7), .int (hs_P S (hb_ix ka) 8), .int (hs_P S (hb_ix ka) 9)]) hx hb hts hown hk hI fp_X5_171 e1_hb_ix_kahP (Nat.le_of_ble_eq_true rfl) rfl rfl rfl dX5_saw_47 (fun H locs hI => ?_)
      refine lv_aload_n hx hb dX5_saw_50 rfl (lv_at hl 0 rfl) ?_
      refine hw_get hx hb hts hown hk hI fd_X5_171 (hw_us _ _ _) rfl dX5_saw_51 ?_
      refine lv_iconst (v := nI 4) hx hb dX5_saw_54 (by decide) ?_
      refine lv_icmp_ne (tgt := 62) hx hb dX5_saw_55 (by decide) (fun hc => absurd rfl hc) (fun _ => ?_)
      refine lv_iconst (v := nI 1) hx hb dX5_saw_58 (by decide) ?_
      refine lv_goto (tgt := 63) hx hb dX5_saw_59 (by decide) ?_
      have ok_hfin : hp_ok Z b1 (va_up M (ad 1 (hb_ix ka)) (hw_ob 3 [.int (nI (hb_ix ka)), .ref (ad 2 (hb_ix ka)), .ref (ad 6 (hb_ix ka)), .int (nI 4), .int (nI (hs_D S (hb_ix ka))), .double (hs_U S (hb_ix ka)), .int (hs_P S (hb_ix ka) 3), hp_ref (ad 9) (hs_P S (hb_ix ka) 4), .int (hs_P S (hb_ix ka) 5), .int (hs_P S (hb_ix ka) 6), .int (hs_P S (hb_ix ka) 7), .int (hs_P S (hb_ix ka) 8), .int (hs_P S (hb_ix ka) 9)])) ad (hs_sP S (hb_ix ka) (va_up (hs_P S (hb_ix ka)) 0 (nI 4))) (T) := by
        refine hP.fin (fun k i hi => ?_) hP.h0 hP.s7
        by_cases q0 : k = 1 ∧ i = (hb_ix ka)
        · obtain ⟨rfl, qi⟩ := q0; obtain rfl := qi.symm
          rw [va_up_self]
          first | rfl | (simp only [hp_e, hp_e0, hp_hang0, va_up_self, ac_P_P, ac_D_P, ac_V_P, ac_M_P, ac_N_P, ac_Q_P, ac_C_P, ac_W_P, ac_U_P, ac_G_P, ac_np_P, ac_nw_P]; done) | (simp only [hp_e, hp_e0, hp_hang0, va_up_self, ac_P_P, ac_D_P, ac_V_P, ac_M_P, ac_N_P, ac_Q_P, ac_C_P, ac_W_P, ac_U_P, ac_G_P, ac_np_P, ac_nw_P]; rfl) | (simp only [hp_e, hp_e0, hp_hang0, va_up_self, ac_P_P, ac_D_P, ac_V_P, ac_M_P, ac_N_P, ac_Q_P, ac_C_P, ac_W_P, ac_U_P, ac_G_P, ac_np_P, ac_nw_P]; refine hw_ob13 ?_ ?_ ?_ ?_ ?_ ?_ ?_ ?_ ?_ ?_ ?_ ?_ ?_ <;> first | rfl | exact (hp_rn (by first | rfl | assumption)).symm | exact (hp_rr (by rfl) (by assumption)).symm)
        by_cases qn0 : k = 6 ∧ i = (hb_ix ka)
        · obtain ⟨rfl, qi⟩ := qn0; obtain rfl := qi.symm
          rw [va_up_ne _ _ (hP.n (k := 6) (i := (hb_ix ka)) (k' := 1) (i' := (hb_ix ka)) hi2 hi2 (fun q => absurd q.1 (by decide)))]
          refine (hP.m 6 (hb_ix ka) hi).trans ?_
          first | rfl | (simp only [hp_e, hp_e0, hp_hang0, va_up_self, ac_P_P, ac_D_P, ac_V_P, ac_M_P, ac_N_P, ac_Q_P, ac_C_P, ac_W_P, ac_U_P, ac_G_P, ac_np_P, ac_nw_P]; done) | (simp only [hp_e, hp_e0, hp_hang0, va_up_self, ac_P_P, ac_D_P, ac_V_P, ac_M_P, ac_N_P, ac_Q_P, ac_C_P, ac_W_P, ac_U_P, ac_G_P, ac_np_P, ac_nw_P]; rfl)
        rw [va_up_ne _ _ (hP.n (k := k) (i := i) (k' := 1) (i' := (hb_ix ka)) hi hi2 q0)]
        exact (hP.m k i hi).trans ((sm_P (k := k) (i := i) _ _ (by omega))).symm
      have fr_hfin : ∀ a, b1 a → (va_up M (ad 1 (hb_ix ka)) (hw_ob 3 [.int (nI (hb_ix ka)), .ref (ad 2 (hb_ix ka)), .ref (ad 6 (hb_ix ka)), .int (nI 4), .int (nI (hs_D S (hb_ix ka))), .double (hs_U S (hb_ix ka)), .int (hs_P S (hb_ix ka) 3), hp_ref (ad 9) (hs_P S (hb_ix ka) 4), .int (hs_P S (hb_ix ka) 5), .int (hs_P S (hb_ix ka) 6), .int (hs_P S (hb_ix ka) 7), .int (hs_P S (hb_ix ka) 8), .int (hs_P S (hb_ix ka) 9)])) a = M a := by
        intro a ha
        rw [va_up_ne _ _ (hP.f (k := 1) (i := (hb_ix ka)) hi2 ha)]
      have hfin : hq_R Z b1 M ad (st_saw S ka) (nI 1) (va_up M (ad 1 (hb_ix ka)) (hw_ob 3 [.int (nI (hb_ix ka)), .ref (ad 2 (hb_ix ka)), .ref (ad 6 (hb_ix ka)), .int (nI 4), .int (nI (hs_D S (hb_ix ka))), .double (hs_U S (hb_ix ka)), .int (hs_P S (hb_ix ka) 3), hp_ref (ad 9) (hs_P S (hb_ix ka) 4), .int (hs_P S (hb_ix ka) 5), .int (hs_P S (hb_ix ka) 6), .int (hs_P S (hb_ix ka) 7), .int (hs_P S (hb_ix ka) 8), .int (hs_P S (hb_ix ka) 9)])) := hq_r (S' := hs_sP S (hb_ix ka) (va_up (hs_P S (hb_ix ka)) 0 (nI 4))) (T' := T) (by unfold st_saw; exact ((if_neg (fun q => q hk2)).trans ((if_neg (fun q => q.1 c11)).trans (if_pos c38)))) ok_hfin fr_hfin
      exact hret hI (Or.inr rfl) hfin (Nat.le_of_ble_eq_true rfl) (Nat.le_of_ble_eq_true rfl) dX5_saw_63
  · refine lv_aload_n hx hb dX5_saw_14 rfl (lv_at hl 0 rfl) ?_
    refine hw_get hx hb hts hown hk hI fd_X5_171 e1_hb_ix_kahP rfl dX5_saw_15 ?_
    refine lv_iconst (v := nI 3) hx hb dX5_saw_18 (by decide) ?_
    refine lv_icmp_eq (tgt := 32) hx hb dX5_saw_19 (by decide) (fun c19 => ?_) (fun c19 => ?_)
    · refine lv_aload_n hx hb dX5_saw_32 rfl (lv_at hl 0 rfl) ?_
      refine lv_aload_n hx hb dX5_saw_33 rfl (lv_at hl 0 rfl) ?_
      refine hw_get hx hb hts hown hk hI fd_X5_171 e1_hb_ix_kahP rfl dX5_saw_34 ?_
      refine lv_iconst (v := nI 3) hx hb dX5_saw_37 (by decide) ?_
      refine lv_icmp_ne (tgt := 45) hx hb dX5_saw_38 (by decide) (fun c38 => ?_) (fun c38 => ?_)
      · refine lv_bipush (v := nI 6) hx hb dX5_saw_45 (by decide) ?_
        refine hw_put (fs' := [.int (nI (hb_ix ka)), .ref (ad 2 (hb_ix ka)), .ref (ad 6 (hb_ix ka)), .int (nI 6), .int (nI (hs_D S (hb_ix ka))), .double (hs_U S (hb_ix ka)), .int (hs_P S (hb_ix ka) 3), hp_ref (ad 9) (hs_P S (hb_ix ka) 4), .int (hs_P S (hb_ix ka) 5), .int (hs_P S (hb_ix ka) 6), .int (hs_P S (hb_ix ka) 7), .int (hs_P S (hb_ix ka) 8), .int (hs_P S (hb_ix ka) 9)]) hx hb hts hown hk hI fp_X5_171 e1_hb_ix_kahP (Nat.le_of_ble_eq_true rfl) rfl rfl rfl dX5_saw_47 (fun H locs hI => ?_)
        refine lv_aload_n hx hb dX5_saw_50 rfl (lv_at hl 0 rfl) ?_
        refine hw_get hx hb hts hown hk hI fd_X5_171 (hw_us _ _ _) rfl dX5_saw_51 ?_
        refine lv_iconst (v := nI 4) hx hb dX5_saw_54 (by decide) ?_
        refine lv_icmp_ne (tgt := 62) hx hb dX5_saw_55 (by decide) (fun _ => ?_) (fun hc => absurd hc (by decide))
        refine lv_iconst (v := nI 0) hx hb dX5_saw_62 (by decide) ?_
        have ok_hfin : hp_ok Z b1 (va_up M (ad 1 (hb_ix ka)) (hw_ob 3 [.int (nI (hb_ix ka)), .ref (ad 2 (hb_ix ka)), .ref (ad 6 (hb_ix ka)), .int (nI 6), .int (nI (hs_D S (hb_ix ka))), .double (hs_U S (hb_ix ka)), .int (hs_P S (hb_ix ka) 3), hp_ref (ad 9) (hs_P S (hb_ix ka) 4), .int (hs_P S (hb_ix ka) 5), .int (hs_P S (hb_ix ka) 6), .int (hs_P S (hb_ix ka) 7), .int (hs_P S (hb_ix ka) 8), .int (hs_P S (hb_ix ka) 9)])) ad (hs_sP S (hb_ix ka) (va_up (hs_P S (hb_ix ka)) 0 (nI 6))) (T) := by
          refine hP.fin (fun k i hi => ?_) hP.h0 hP.s7
          by_cases q0 : k = 1 ∧ i = (hb_ix ka)
          · obtain ⟨rfl, qi⟩ := q0; obtain rfl := qi.symm
            rw [va_up_self]
            first | rfl | (simp only [hp_e, hp_e0, hp_hang0, va_up_self, ac_P_P, ac_D_P, ac_V_P, ac_M_P, ac_N_P, ac_Q_P, ac_C_P, ac_W_P, ac_U_P, ac_G_P, ac_np_P, ac_nw_P]; done) | (simp only [hp_e, hp_e0, hp_hang0, va_up_self, ac_P_P, ac_D_P, ac_V_P, ac_M_P, ac_N_P, ac_Q_P, ac_C_P, ac_W_P, ac_U_P, ac_G_P, ac_np_P, ac_nw_P]; rfl) | (simp only [hp_e, hp_e0, hp_hang0, va_up_self, ac_P_P, ac_D_P, ac_V_P, ac_M_P, ac_N_P, ac_Q_P, ac_C_P, ac_W_P, ac_U_P, ac_G_P, ac_np_P, ac_nw_P]; refine hw_ob13 ?_ ?_ ?_ ?_ ?_ ?_ ?_ ?_ ?_ ?_ ?_ ?_ ?_ <;> first | rfl | exact (hp_rn (by first | rfl | assumption)).symm | exact (hp_rr (by rfl) (by assumption)).symm)
          by_cases qn0 : k = 6 ∧ i = (hb_ix ka)
          · obtain ⟨rfl, qi⟩ := qn0; obtain rfl := qi.symm
            rw [va_up_ne _ _ (hP.n (k := 6) (i := (hb_ix ka)) (k' := 1) (i' := (hb_ix ka)) hi2 hi2 (fun q => absurd q.1 (by decide)))]
            refine (hP.m 6 (hb_ix ka) hi).trans ?_
            first | rfl | (simp only [hp_e, hp_e0, hp_hang0, va_up_self, ac_P_P, ac_D_P, ac_V_P, ac_M_P, ac_N_P, ac_Q_P, ac_C_P, ac_W_P, ac_U_P, ac_G_P, ac_np_P, ac_nw_P]; done) | (simp only [hp_e, hp_e0, hp_hang0, va_up_self, ac_P_P, ac_D_P, ac_V_P, ac_M_P, ac_N_P, ac_Q_P, ac_C_P, ac_W_P, ac_U_P, ac_G_P, ac_np_P, ac_nw_P]; rfl)
          rw [va_up_ne _ _ (hP.n (k := k) (i := i) (k' := 1) (i' := (hb_ix ka)) hi hi2 q0)]
          exact (hP.m k i hi).trans ((sm_P (k := k) (i := i) _ _ (by omega))).symm
        have fr_hfin : ∀ a, b1 a → (va_up M (ad 1 (hb_ix ka)) (hw_ob 3 [.int (nI (hb_ix ka)), .ref (ad 2 (hb_ix ka)), .ref (ad 6 (hb_ix ka)), .int (nI 6), .int (nI (hs_D S (hb_ix ka))), .double (hs_U S (hb_ix ka)), .int (hs_P S (hb_ix ka) 3), hp_ref (ad 9) (hs_P S (hb_ix ka) 4), .int (hs_P S (hb_ix ka) 5), .int (hs_P S (hb_ix ka) 6), .int (hs_P S (hb_ix ka) 7), .int (hs_P S (hb_ix ka) 8), .int (hs_P S (hb_ix ka) 9)])) a = M a := by
          intro a ha
          rw [va_up_ne _ _ (hP.f (k := 1) (i := (hb_ix ka)) hi2 ha)]
        have hfin : hq_R Z b1 M ad (st_saw S ka) (nI 0) (va_up M (ad 1 (hb_ix ka)) (hw_ob 3 [.int (nI (hb_ix ka)), .ref (ad 2 (hb_ix ka)), .ref (ad 6 (hb_ix ka)), .int (nI 6), .int (nI (hs_D S (hb_ix ka))), .double (hs_U S (hb_ix ka)), .int (hs_P S (hb_ix ka) 3), hp_ref (ad 9) (hs_P S (hb_ix ka) 4), .int (hs_P S (hb_ix ka) 5), .int (hs_P S (hb_ix ka) 6), .int (hs_P S (hb_ix ka) 7), .int (hs_P S (hb_ix ka) 8), .int (hs_P S (hb_ix ka) 9)])) := hq_r (S' := hs_sP S (hb_ix ka) (va_up (hs_P S (hb_ix ka)) 0 (nI 6))) (T' := T) (by unfold st_saw; exact ((if_neg (fun q => q hk2)).trans ((if_neg (fun q => q.2 c19)).trans ((if_neg c38).trans rfl)))) ok_hfin fr_hfin
        exact hret hI (Or.inl rfl) hfin (Nat.le_of_ble_eq_true rfl) (Nat.le_of_ble_eq_true rfl) dX5_saw_63
      · refine lv_iconst (v := nI 4) hx hb dX5_saw_41 (by decide) ?_
        refine lv_goto (tgt := 47) hx hb dX5_saw_42 (by decide) ?_
        refine hw_put (fs' := [.int (nI (hb_ix ka)), .ref (ad 2 (hb_ix ka)), .ref (ad 6 (hb_ix ka)), .int (nI 4), .int (nI (hs_D S (hb_ix ka))), .double (hs_U S (hb_ix ka)), .int (hs_P S (hb_ix ka) 3), hp_ref (ad 9) (hs_P S (hb_ix ka) 4), .int (hs_P S (hb_ix ka) 5), .int (hs_P S (hb_ix ka) 6), .int (hs_P S (hb_ix ka) 7), .int (hs_P S (hb_ix ka) 8), .int (hs_P S (hb_ix ka) 9)]) hx hb hts hown hk hI fp_X5_171 e1_hb_ix_kahP (Nat.le_of_ble_eq_true rfl) rfl rfl rfl dX5_saw_47 (fun H locs hI => ?_)
        refine lv_aload_n hx hb dX5_saw_50 rfl (lv_at hl 0 rfl) ?_
        refine hw_get hx hb hts hown hk hI fd_X5_171 (hw_us _ _ _) rfl dX5_saw_51 ?_
        refine lv_iconst (v := nI 4) hx hb dX5_saw_54 (by decide) ?_
        refine lv_icmp_ne (tgt := 62) hx hb dX5_saw_55 (by decide) (fun hc => absurd rfl hc) (fun _ => ?_)
        refine lv_iconst (v := nI 1) hx hb dX5_saw_58 (by decide) ?_
        refine lv_goto (tgt := 63) hx hb dX5_saw_59 (by decide) ?_
        have ok_hfin : hp_ok Z b1 (va_up M (ad 1 (hb_ix ka)) (hw_ob 3 [.int (nI (hb_ix ka)), .ref (ad 2 (hb_ix ka)), .ref (ad 6 (hb_ix ka)), .int (nI 4), .int (nI (hs_D S (hb_ix ka))), .double (hs_U S (hb_ix ka)), .int (hs_P S (hb_ix ka) 3), hp_ref (ad 9) (hs_P S (hb_ix ka) 4), .int (hs_P S (hb_ix ka) 5), .int (hs_P S (hb_ix ka) 6), .int (hs_P S (hb_ix ka) 7), .int (hs_P S (hb_ix ka) 8), .int (hs_P S (hb_ix ka) 9)])) ad (hs_sP S (hb_ix ka) (va_up (hs_P S (hb_ix ka)) 0 (nI 4))) (T) := by
          refine hP.fin (fun k i hi => ?_) hP.h0 hP.s7
          by_cases q0 : k = 1 ∧ i = (hb_ix ka)
          · obtain ⟨rfl, qi⟩ := q0; obtain rfl := qi.symm
            rw [va_up_self]
            first | rfl | (simp only [hp_e, hp_e0, hp_hang0, va_up_self, ac_P_P, ac_D_P, ac_V_P, ac_M_P, ac_N_P, ac_Q_P, ac_C_P, ac_W_P, ac_U_P, ac_G_P, ac_np_P, ac_nw_P]; done) | (simp only [hp_e, hp_e0, hp_hang0, va_up_self, ac_P_P, ac_D_P, ac_V_P, ac_M_P, ac_N_P, ac_Q_P, ac_C_P, ac_W_P, ac_U_P, ac_G_P, ac_np_P, ac_nw_P]; rfl) | (simp only [hp_e, hp_e0, hp_hang0, va_up_self, ac_P_P, ac_D_P, ac_V_P, ac_M_P, ac_N_P, ac_Q_P, ac_C_P, ac_W_P, ac_U_P, ac_G_P, ac_np_P, ac_nw_P]; refine hw_ob13 ?_ ?_ ?_ ?_ ?_ ?_ ?_ ?_ ?_ ?_ ?_ ?_ ?_ <;> first | rfl | exact (hp_rn (by first | rfl | assumption)).symm | exact (hp_rr (by rfl) (by assumption)).symm)
          by_cases qn0 : k = 6 ∧ i = (hb_ix ka)
          · obtain ⟨rfl, qi⟩ := qn0; obtain rfl := qi.symm
            rw [va_up_ne _ _ (hP.n (k := 6) (i := (hb_ix ka)) (k' := 1) (i' := (hb_ix ka)) hi2 hi2 (fun q => absurd q.1 (by decide)))]
            refine (hP.m 6 (hb_ix ka) hi).trans ?_
            first | rfl | (simp only [hp_e, hp_e0, hp_hang0, va_up_self, ac_P_P, ac_D_P, ac_V_P, ac_M_P, ac_N_P, ac_Q_P, ac_C_P, ac_W_P, ac_U_P, ac_G_P, ac_np_P, ac_nw_P]; done) | (simp only [hp_e, hp_e0, hp_hang0, va_up_self, ac_P_P, ac_D_P, ac_V_P, ac_M_P, ac_N_P, ac_Q_P, ac_C_P, ac_W_P, ac_U_P, ac_G_P, ac_np_P, ac_nw_P]; rfl)
          rw [va_up_ne _ _ (hP.n (k := k) (i := i) (k' := 1) (i' := (hb_ix ka)) hi hi2 q0)]
          exact (hP.m k i hi).trans ((sm_P (k := k) (i := i) _ _ (by omega))).symm
        have fr_hfin : ∀ a, b1 a → (va_up M (ad 1 (hb_ix ka)) (hw_ob 3 [.int (nI (hb_ix ka)), .ref (ad 2 (hb_ix ka)), .ref (ad 6 (hb_ix ka)), .int (nI 4), .int (nI (hs_D S (hb_ix ka))), .double (hs_U S (hb_ix ka)), .int (hs_P S (hb_ix ka) 3), hp_ref (ad 9) (hs_P S (hb_ix ka) 4), .int (hs_P S (hb_ix ka) 5), .int (hs_P S (hb_ix ka) 6), .int (hs_P S (hb_ix ka) 7), .int (hs_P S (hb_ix ka) 8), .int (hs_P S (hb_ix ka) 9)])) a = M a := by
          intro a ha
          rw [va_up_ne _ _ (hP.f (k := 1) (i := (hb_ix ka)) hi2 ha)]
        have hfin : hq_R Z b1 M ad (st_saw S ka) (nI 1) (va_up M (ad 1 (hb_ix ka)) (hw_ob 3 [.int (nI (hb_ix ka)), .ref (ad 2 (hb_ix ka)), .ref (ad 6 (hb_ix ka)), .int (nI 4), .int (nI (hs_D S (hb_ix ka))), .double (hs_U S (hb_ix ka)), .int (hs_P S (hb_ix ka) 3), hp_ref (ad 9) (hs_P S (hb_ix ka) 4), .int (hs_P S (hb_ix ka) 5), .int (hs_P S (hb_ix ka) 6), .int (hs_P S (hb_ix ka) 7), .int (hs_P S (hb_ix ka) 8), .int (hs_P S (hb_ix ka) 9)])) := hq_r (S' := hs_sP S (hb_ix ka) (va_up (hs_P S (hb_ix ka)) 0 (nI 4))) (T' := T) (by unfold st_saw; exact ((if_neg (fun q => q hk2)).trans ((if_neg (fun q => q.2 c19)).trans (if_pos c38)))) ok_hfin fr_hfin
        exact hret hI (Or.inr rfl) hfin (Nat.le_of_ble_eq_true rfl) (Nat.le_of_ble_eq_true rfl) dX5_saw_63
    · exact hthr hI th_X5_50_232_54 hl.1 dX5_saw_22 dX5_saw_25 dX5_saw_26 dX5_saw_28 dX5_saw_31 (Nat.le_of_ble_eq_true rfl) (Nat.le_of_ble_eq_true rfl) (Nat.le_of_ble_eq_true rfl) (Nat.le_of_ble_eq_true rfl) (hq_x (c := 2) (by unfold st_saw; exact (hq_el (fun q => q hk2) (hq_if ⟨c11, c19⟩ ⟨rfl, rfl⟩))) ⟨by decide, rfl⟩ rfl) (Nat.le_of_ble_eq_true rfl) (Nat.le_of_ble_eq_true rfl)

set_option maxHeartbeats 4000000 in
set_option maxRecDepth 100000 in
theorem m_X5_press (l : Launch) (hst : l.stackTraces = false) (Z : hw_Z) (M : hw_M) (ad : hp_ad) (S : hs_S) (T : hp_T) (b1 : Nat → Prop) (ka : Int32) (hP : hp_ok Z b1 M ad S T) (hB : hs_b S) : vx_Met l yX5_press (hw_m yX5_press cX5_press 3 (some .int)) ({ frames := 9, cells := 6, slots := 36, locals := 190 } : Room) (va_Pc [.ref (ad 0 0), .int ka] (hw_P Z M)) (hw_Qi Z (hq_R Z b1 M ad (st_press S ka))) (hw_X Z (hq_X ["java/lang/IndexOutOfBoundsException", "java/lang/IllegalStateException"] M S (st_press S ka))) 6 36 (hw_A Z) := by
  refine hw_xofi hst (by decide +kernel) rfl (Nat.le_of_ble_eq_true rfl) ?_
  intro p e s m below meth c ls Q hx hb hml hown hts hk hnm hI hl hret hxo hthr hthrW
  have hnp := hB.np
  have hnw := hB.nw
  have e0_0hP : M (ad 0 0) = hw_ob 6 [.ref (ad 0 1), .ref (ad 0 2), .ref (ad 0 3), .int (nI (hs_np S)), .int (nI (hs_nw S)), .int (hs_G S 0), .int (hs_G S 1), .ref (ad 0 4), .ref (ad 0 8)] := hP.m 0 0 (by decide)
  have e0_1hP : M (ad 0 1) = hw_ar Z 3 4 (fun j => some (ad 1 j)) := hP.m 0 1 (by decide)
  refine lv_aload_n hx hb dX5_press_0 rfl (lv_at hl 0 rfl) ?_
  refine lv_iload_n hx hb dX5_press_1 rfl (lv_at hl 1 rfl) ?_
  refine hw_xr hI hxo (hw_xV hx hb hml hown hts hk hI (m_X5_pieceAt l hst Z M (ad 0 0) (ad 0 1) (ad 0 2) (ad 0 3) (ad 0 4) (ad 0 8) (hs_np S) (hs_nw S) (hs_G S 0) (hs_G S 1) ka (ad 1) e0_0hP e0_1hP hnp) cv_X5_57 e0_0hP rfl rfl ⟨rfl, rfl⟩ ⟨(Nat.le_of_ble_eq_true rfl), (Nat.le_of_ble_eq_true rfl)⟩ rfl hl.1 rfl (Nat.le_of_ble_eq_true rfl) ⟨(Nat.le_of_ble_eq_true rfl), (Nat.le_of_ble_eq_true rfl)⟩ dX5_press_2) (hq_xc (c := 1) (fun h => by unfold st_press; exact (hq_if h ⟨rfl, rfl⟩)) ⟨by decide, rfl⟩) (Nat.le_of_ble_eq_true rfl) (Nat.le_of_ble_eq_true rfl) (fun r2 M2 H locs hR hI => ?_)
  obtain ⟨⟨hk2, rfl⟩, rfl⟩ := hR
  have hx2 := hb_okx (by omega) hk2
  have hi2 : hb_ix ka < 4 := by have := hx2.1; omega
  have e1_hb_ix_kahP : M (ad 1 (hb_ix ka)) = hw_ob 3 [.int (nI (hb_ix ka)), .ref (ad 2 (hb_ix ka)), .ref (ad 6 (hb_ix ka)), .int (hs_P S (hb_ix ka) 0), .int (nI (hs_D S (hb_ix ka))), .double (hs_U S (hb_ix ka)), .int (hs_P S (hb_ix ka) 3), hp_ref (ad 9) (hs_P S (hb_ix ka) 4), .int (hs_P S (hb_ix ka) 5), .int (hs_P S (hb_ix ka) 6), .int (hs_P S (hb_ix ka) 7), .int (hs_P S (hb_ix ka) 8), .int (hs_P S (hb_ix ka) 9)] := hP.m 1 (hb_ix ka) hi2
  have e6_hb_ix_kahP : M (ad 6 (hb_ix ka)) = hw_ob 2 [.ref (ad 7 (hb_ix ka)), .int (hs_P S (hb_ix ka) 1), .int (hs_P S (hb_ix ka) 2)] := hP.m 6 (hb_ix ka) hi2
  refine lv_astore_n (lv' := [(2, .ref (ad 1 (hb_ix ka))), (0, .ref (ad 0 0)), (1, .int ka)]) hx hb dX5_press_5 rfl hl (by decide) rfl (fun ls hl => ?_)
  refine lv_aload_n hx hb dX5_press_6 rfl (lv_at hl 0 rfl) ?_
  refine hw_get hx hb hts hown hk hI fd_X5_171 e1_hb_ix_kahP rfl dX5_press_7 ?_
  refine lv_iconst (v := nI 3) hx hb dX5_press_10 (by decide) ?_
  refine lv_icmp_eq (tgt := 32) hx hb dX5_press_11 (by decide) (fun c11 => ?_) (fun c11 => ?_)
  · refine lv_aload_n hx hb dX5_press_32 rfl (lv_at hl 0 rfl) ?_
    refine hw_get hx hb hts hown hk hI fd_X5_198 e1_hb_ix_kahP rfl dX5_press_33 ?_
    refine lv_aload_n hx hb dX5_press_36 rfl (lv_at hl 0 rfl) ?_
    refine hw_get hx hb hts hown hk hI fd_X5_198 e1_hb_ix_kahP rfl dX5_press_37 ?_
    refine hw_get hx hb hts hown hk hI fd_X5_229 e6_hb_ix_kahP rfl dX5_press_40 ?_
    refine lv_iconst (v := nI 4) hx hb dX5_press_43 (by decide) ?_
    refine lv_idiv hx hb dX5_press_44 (by decide) ?_
    refine hw_put (fs' := [.ref (ad 7 (hb_ix ka)), .int ((hs_P S (hb_ix ka) 1) / (nI 4)), .int (hs_P S (hb_ix ka) 2)]) hx hb hts hown hk hI fp_X5_229 e6_hb_ix_kahP (Nat.le_of_ble_eq_true rfl) rfl rfl rfl dX5_press_45 (fun H locs hI => ?_)
    refine lv_aload_n hx hb dX5_press_48 rfl (lv_at hl 0 rfl) ?_
    refine hw_get hx hb hts hown hk hI fd_X5_198 (hw_up e1_hb_ix_kahP (hP.n (k := 1) (i := (hb_ix ka)) (k' := 6) (i' := (hb_ix ka)) hi2 hi2 (fun q => absurd q.1 (by decide)))) rfl dX5_press_49 ?_
    refine hw_get hx hb hts hown hk hI fd_X5_229 (hw_us _ _ _) rfl dX5_press_52 ?_
    have ok_hfin : hp_ok Z b1 (va_up M (ad 6 (hb_ix ka)) (hw_ob 2 [.ref (ad 7 (hb_ix ka)), .int ((hs_P S (hb_ix ka) 1) / (nI 4)), .int (hs_P S (hb_ix ka) 2)])) ad (hs_sP S (hb_ix ka) (va_up (hs_P S (hb_ix ka)) 1 (hs_P S (hb_ix ka) 1 / nI 4))) (T) := by
      refine hP.fin (fun k i hi => ?_) hP.h0 hP.s7
      by_cases q0 : k = 6 ∧ i = (hb_ix ka)
      · obtain ⟨rfl, qi⟩ := q0; obtain rfl := qi.symm
        rw [va_up_self]
        first | rfl | (simp only [hp_e, hp_e0, hp_hang0, va_up_self, ac_P_P, ac_D_P, ac_V_P, ac_M_P, ac_N_P, ac_Q_P, ac_C_P, ac_W_P, ac_U_P, ac_G_P, ac_np_P, ac_nw_P]; done) | (simp only [hp_e, hp_e0, hp_hang0, va_up_self, ac_P_P, ac_D_P, ac_V_P, ac_M_P, ac_N_P, ac_Q_P, ac_C_P, ac_W_P, ac_U_P, ac_G_P, ac_np_P, ac_nw_P]; rfl)
      by_cases qn0 : k = 1 ∧ i = (hb_ix ka)
      · obtain ⟨rfl, qi⟩ := qn0; obtain rfl := qi.symm
        rw [va_up_ne _ _ (hP.n (k := 1) (i := (hb_ix ka)) (k' := 6) (i' := (hb_ix ka)) hi2 hi2 (fun q => absurd q.1 (by decide)))]
        refine (hP.m 1 (hb_ix ka) hi).trans ?_
        first | rfl | (simp only [hp_e, hp_e0, hp_hang0, va_up_self, ac_P_P, ac_D_P, ac_V_P, ac_M_P, ac_N_P, ac_Q_P, ac_C_P, ac_W_P, ac_U_P, ac_G_P, ac_np_P, ac_nw_P]; done) | (simp only [hp_e, hp_e0, hp_hang0, va_up_self, ac_P_P, ac_D_P, ac_V_P, ac_M_P, ac_N_P, ac_Q_P, ac_C_P, ac_W_P, ac_U_P, ac_G_P, ac_np_P, ac_nw_P]; rfl) | (simp only [hp_e, hp_e0, hp_hang0, va_up_self, ac_P_P, ac_D_P, ac_V_P, ac_M_P, ac_N_P, ac_Q_P, ac_C_P, ac_W_P, ac_U_P, ac_G_P, ac_np_P, ac_nw_P]; refine hw_ob13 ?_ ?_ ?_ ?_ ?_ ?_ ?_ ?_ ?_ ?_ ?_ ?_ ?_ <;> first | rfl | exact (hp_rn (by first | rfl | assumption)).symm | exact (hp_rr (by rfl) (by assumption)).symm)
      rw [va_up_ne _ _ (hP.n (k := k) (i := i) (k' := 6) (i' := (hb_ix ka)) hi hi2 q0)]
      exact (hP.m k i hi).trans ((sm_P (k := k) (i := i) _ _ (by omega))).symm
    have fr_hfin : ∀ a, b1 a → (va_up M (ad 6 (hb_ix ka)) (hw_ob 2 [.ref (ad 7 (hb_ix ka)), .int ((hs_P S (hb_ix ka) 1) / (nI 4)), .int (hs_P S (hb_ix ka) 2)])) a = M a := by
      intro a ha
      rw [va_up_ne _ _ (hP.f (k := 6) (i := (hb_ix ka)) hi2 ha)]
    have hfin : hq_R Z b1 M ad (st_press S ka) ((hs_P S (hb_ix ka) 1) / (nI 4)) (va_up M (ad 6 (hb_ix ka)) (hw_ob 2 [.ref (ad 7 (hb_ix ka)), .int ((hs_P S (hb_ix ka) 1) / (nI 4)), .int (hs_P S (hb_ix ka) 2)])) := hq_r (S' := hs_sP S (hb_ix ka) (va_up (hs_P S (hb_ix ka)) 1 (hs_P S (hb_ix ka) 1 / nI 4))) (T' := T) (by unfold st_press; exact ((if_neg (fun q => q hk2)).trans ((if_neg (fun q => q.1 c11)).trans rfl))) ok_hfin fr_hfin
    exact hret hI hfin (Nat.le_of_ble_eq_true rfl) (Nat.le_of_ble_eq_true rfl) dX5_press_55
  · refine lv_aload_n hx hb dX5_press_14 rfl (lv_at hl 0 rfl) ?_
    refine hw_get hx hb hts hown hk hI fd_X5_171 e1_hb_ix_kahP rfl dX5_press_15 ?_
    refine lv_iconst (v := nI 4) hx hb dX5_press_18 (by decide) ?_
    refine lv_icmp_eq (tgt := 32) hx hb dX5_press_19 (by decide) (fun c19 => ?_) (fun c19 => ?_)
    · refine lv_aload_n hx hb dX5_press_32 rfl (lv_at hl 0 rfl) ?_
      refine hw_get hx hb hts hown hk hI fd_X5_198 e1_hb_ix_kahP rfl dX5_press_33 ?_
      refine lv_aload_n hx hb dX5_press_36 rfl (lv_at hl 0 rfl) ?_
      refine hw_get hx hb hts hown hk hI fd_X5_198 e1_hb_ix_kahP rfl dX5_press_37 ?_
      refine hw_get hx hb hts hown hk hI fd_X5_229 e6_hb_ix_kahP rfl dX5_press_40 ?_
      refine lv_iconst (v := nI 4) hx hb dX5_press_43 (by decide) ?_
      refine lv_idiv hx hb dX5_press_44 (by decide) ?_
      refine hw_put (fs' := [.ref (ad 7 (hb_ix ka)), .int ((hs_P S (hb_ix ka) 1) / (nI 4)), .int (hs_P S (hb_ix ka) 2)]) hx hb hts hown hk hI fp_X5_229 e6_hb_ix_kahP (Nat.le_of_ble_eq_true rfl) rfl rfl rfl dX5_press_45 (fun H locs hI => ?_)
      refine lv_aload_n hx hb dX5_press_48 rfl (lv_at hl 0 rfl) ?_
      refine hw_get hx hb hts hown hk hI fd_X5_198 (hw_up e1_hb_ix_kahP (hP.n (k := 1) (i := (hb_ix ka)) (k' := 6) (i' := (hb_ix ka)) hi2 hi2 (fun q => absurd q.1 (by decide)))) rfl dX5_press_49 ?_
      refine hw_get hx hb hts hown hk hI fd_X5_229 (hw_us _ _ _) rfl dX5_press_52 ?_
      have ok_hfin : hp_ok Z b1 (va_up M (ad 6 (hb_ix ka)) (hw_ob 2 [.ref (ad 7 (hb_ix ka)), .int ((hs_P S (hb_ix ka) 1) / (nI 4)), .int (hs_P S (hb_ix ka) 2)])) ad (hs_sP S (hb_ix ka) (va_up (hs_P S (hb_ix ka)) 1 (hs_P S (hb_ix ka) 1 / nI 4))) (T) := by
        refine hP.fin (fun k i hi => ?_) hP.h0 hP.s7
        by_cases q0 : k = 6 ∧ i = (hb_ix ka)
        · obtain ⟨rfl, qi⟩ := q0; obtain rfl := qi.symm
          rw [va_up_self]
          first | rfl | (simp only [hp_e, hp_e0, hp_hang0, va_up_self, ac_P_P, ac_D_P, ac_V_P, ac_M_P, ac_N_P, ac_Q_P, ac_C_P, ac_W_P, ac_U_P, ac_G_P, ac_np_P, ac_nw_P]; done) | (simp only [hp_e, hp_e0, hp_hang0, va_up_self, ac_P_P, ac_D_P, ac_V_P, ac_M_P, ac_N_P, ac_Q_P, ac_C_P, ac_W_P, ac_U_P, ac_G_P, ac_np_P, ac_nw_P]; rfl)
        by_cases qn0 : k = 1 ∧ i = (hb_ix ka)
        · obtain ⟨rfl, qi⟩ := qn0; obtain rfl := qi.symm
          rw [va_up_ne _ _ (hP.n (k := 1) (i := (hb_ix ka)) (k' := 6) (i' := (hb_ix ka)) hi2 hi2 (fun q => absurd q.1 (by decide)))]
          refine (hP.m 1 (hb_ix ka) hi).trans ?_
          first | rfl | (simp only [hp_e, hp_e0, hp_hang0, va_up_self, ac_P_P, ac_D_P, ac_V_P, ac_M_P, ac_N_P, ac_Q_P, ac_C_P, ac_W_P, ac_U_P, ac_G_P, ac_np_P, ac_nw_P]; done) | (simp only [hp_e, hp_e0, hp_hang0, va_up_self, ac_P_P, ac_D_P, ac_V_P, ac_M_P, ac_N_P, ac_Q_P, ac_C_P, ac_W_P, ac_U_P, ac_G_P, ac_np_P, ac_nw_P]; rfl) | (simp only [hp_e, hp_e0, hp_hang0, va_up_self, ac_P_P, ac_D_P, ac_V_P, ac_M_P, ac_N_P, ac_Q_P, ac_C_P, ac_W_P, ac_U_P, ac_G_P, ac_np_P, ac_nw_P]; refine hw_ob13 ?_ ?_ ?_ ?_ ?_ ?_ ?_ ?_ ?_ ?_ ?_ ?_ ?_ <;> first | rfl | exact (hp_rn (by first | rfl | assumption)).symm | exact (hp_rr (by rfl) (by assumption)).symm)
        rw [va_up_ne _ _ (hP.n (k := k) (i := i) (k' := 6) (i' := (hb_ix ka)) hi hi2 q0)]
        exact (hP.m k i hi).trans ((sm_P (k := k) (i := i) _ _ (by omega))).symm
      have fr_hfin : ∀ a, b1 a → (va_up M (ad 6 (hb_ix ka)) (hw_ob 2 [.ref (ad 7 (hb_ix ka)), .int ((hs_P S (hb_ix ka) 1) / (nI 4)), .int (hs_P S (hb_ix ka) 2)])) a = M a := by
        intro a ha
        rw [va_up_ne _ _ (hP.f (k := 6) (i := (hb_ix ka)) hi2 ha)]
      have hfin : hq_R Z b1 M ad (st_press S ka) ((hs_P S (hb_ix ka) 1) / (nI 4)) (va_up M (ad 6 (hb_ix ka)) (hw_ob 2 [.ref (ad 7 (hb_ix ka)), .int ((hs_P S (hb_ix ka) 1) / (nI 4)), .int (hs_P S (hb_ix ka) 2)])) := hq_r (S' := hs_sP S (hb_ix ka) (va_up (hs_P S (hb_ix ka)) 1 (hs_P S (hb_ix ka) 1 / nI 4))) (T' := T) (by unfold st_press; exact ((if_neg (fun q => q hk2)).trans ((if_neg (fun q => q.2 c19)).trans rfl))) ok_hfin fr_hfin
      exact hret hI hfin (Nat.le_of_ble_eq_true rfl) (Nat.le_of_ble_eq_true rfl) dX5_press_55
    · exact hthr hI th_X5_50_234_54 hl.1 dX5_press_22 dX5_press_25 dX5_press_26 dX5_press_28 dX5_press_31 (Nat.le_of_ble_eq_true rfl) (Nat.le_of_ble_eq_true rfl) (Nat.le_of_ble_eq_true rfl) (Nat.le_of_ble_eq_true rfl) (hq_x (c := 2) (by unfold st_press; exact (hq_el (fun q => q hk2) (hq_if ⟨c11, c19⟩ ⟨rfl, rfl⟩))) ⟨by decide, rfl⟩ rfl) (Nat.le_of_ble_eq_true rfl) (Nat.le_of_ble_eq_true rfl)
