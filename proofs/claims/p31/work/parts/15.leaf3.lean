theorem iw_X2 : ∀ w ∈ u_ws RX2 TX2 13, w ∈ hw_ws := fun w h => hw_win ((by decide +kernel : ∀ w ∈ u_ws RX2 TX2 13, w ∈ lw_tbl) w h) ((by decide +kernel : ∀ w ∈ u_ws RX2 TX2 13, goodWord w = true) w h)
theorem fd_X2_12 : hw_FD RX2 12 3 1 := ⟨RX2, TX2, 13, "MeltPool$Piece", rfl, by decide, iw_X2, (hw_win (w := .fieldLink RX2 12 "MeltPool$Piece" (TX2 1).2.1 (TX2 1).2.2.1) (by decide +kernel) (by decide +kernel)), Or.inl rfl⟩
theorem fd_X2_58 : hw_FD RX2 58 5 1 := ⟨RX4, TX4, 3, "MeltPool$Solid", rfl, by decide, iw_X4, (hw_win (w := .fieldLink RX2 58 "MeltPool$Solid" (TX4 1).2.1 (TX4 1).2.2.1) (by decide +kernel) (by decide +kernel)), Or.inl rfl⟩
theorem fd_X2_62 : hw_FD RX2 62 3 4 := ⟨RX2, TX2, 13, "MeltPool$Piece", rfl, by decide, iw_X2, (hw_win (w := .fieldLink RX2 62 "MeltPool$Piece" (TX2 4).2.1 (TX2 4).2.2.1) (by decide +kernel) (by decide +kernel)), Or.inl rfl⟩
theorem fd_X2_21 : hw_FD RX2 21 3 2 := ⟨RX2, TX2, 13, "MeltPool$Piece", rfl, by decide, iw_X2, (hw_win (w := .fieldLink RX2 21 "MeltPool$Piece" (TX2 2).2.1 (TX2 2).2.2.1) (by decide +kernel) (by decide +kernel)), Or.inl rfl⟩
theorem fd_X2_65 : hw_FD RX2 65 5 0 := ⟨RX4, TX4, 3, "MeltPool$Solid", rfl, by decide, iw_X4, (hw_win (w := .fieldLink RX2 65 "MeltPool$Solid" (TX4 0).2.1 (TX4 0).2.2.1) (by decide +kernel) (by decide +kernel)), Or.inl rfl⟩
theorem fd_X2_29 : hw_FD RX2 29 3 8 := ⟨RX2, TX2, 13, "MeltPool$Piece", rfl, by decide, iw_X2, (hw_win (w := .fieldLink RX2 29 "MeltPool$Piece" (TX2 8).2.1 (TX2 8).2.2.1) (by decide +kernel) (by decide +kernel)), Or.inl rfl⟩
theorem fd_X2_32 : hw_FD RX2 32 3 9 := ⟨RX2, TX2, 13, "MeltPool$Piece", rfl, by decide, iw_X2, (hw_win (w := .fieldLink RX2 32 "MeltPool$Piece" (TX2 9).2.1 (TX2 9).2.2.1) (by decide +kernel) (by decide +kernel)), Or.inl rfl⟩
theorem cb_X5_energyOf (own : String) (index : Nat) : hw_CB own index yX5_energyOf cX5_energyOf 2 (some .double) 2 := ⟨⟨by decide +kernel, by decide +kernel, by decide +kernel⟩, (hw_win (w := .code yX5_energyOf cX5_energyOf 2 (some .double)) (by decide +kernel) (by decide +kernel)), (hw_win (w := .initialized yX5_energyOf.cls) (by decide +kernel) (by decide +kernel))⟩
theorem cn_X2_68 : hw_CSN RX2 68 yX5_energyOf "MeltPool" cX5_energyOf 2 (some .double) 2 := ⟨cb_X5_energyOf _ _, by decide +kernel, (hw_win (w := .static yX5_energyOf) (by decide +kernel) (by decide +kernel))⟩
theorem cb_X1_shine (own : String) (index : Nat) : hw_CB own index yX1_shine cX1_shine 14 none 3 := ⟨⟨by decide +kernel, by decide +kernel, by decide +kernel⟩, (hw_win (w := .code yX1_shine cX1_shine 14 none) (by decide +kernel) (by decide +kernel)), (hw_win (w := .initialized yX1_shine.cls) (by decide +kernel) (by decide +kernel))⟩
theorem cv_X2_72 : hw_CV RX2 72 yX1_shine cX1_shine 14 none 3 := ⟨cb_X1_shine _ _, (hw_win (w := .methodLink RX2 72 yX1_shine) (by decide +kernel) (by decide +kernel)), (hw_win (w := .instanceMethod yX1_shine) (by decide +kernel) (by decide +kernel)), (hw_win (w := .selects yX1_shine.cls yX1_shine yX1_shine) (by decide +kernel) (by decide +kernel))⟩
theorem fd_X2_76 : hw_FD RX2 76 3 5 := ⟨RX2, TX2, 13, "MeltPool$Piece", rfl, by decide, iw_X2, (hw_win (w := .fieldLink RX2 76 "MeltPool$Piece" (TX2 5).2.1 (TX2 5).2.2.1) (by decide +kernel) (by decide +kernel)), Or.inl rfl⟩
theorem cs_X2_84 : hw_CS RX2 84 yJ13_bitCount_95d88 cJ13_bitCount_95d88 2 (some .int) 1 := ⟨cb_J13_bitCount_95d88 _ _, (hw_win (w := .methodLink RX2 84 yJ13_bitCount_95d88) (by decide +kernel) (by decide +kernel)), (hw_win (w := .static yJ13_bitCount_95d88) (by decide +kernel) (by decide +kernel))⟩
theorem fp_X2_76 : hw_FP RX2 76 3 5 (.double) false := ⟨RX2, TX2, 13, "MeltPool$Piece", tyX2, rfl, by decide, iw_X2, (hw_win (w := .fieldLink RX2 76 "MeltPool$Piece" (TX2 5).2.1 (TX2 5).2.2.1) (by decide +kernel) (by decide +kernel)), Or.inl rfl, tyX2_ok, nmX2, rfl, (fun h => by cases h), by decide +kernel⟩
theorem fp_X2_62 : hw_FP RX2 62 3 4 (.int) false := ⟨RX2, TX2, 13, "MeltPool$Piece", tyX2, rfl, by decide, iw_X2, (hw_win (w := .fieldLink RX2 62 "MeltPool$Piece" (TX2 4).2.1 (TX2 4).2.2.1) (by decide +kernel) (by decide +kernel)), Or.inl rfl, tyX2_ok, nmX2, rfl, (fun h => by cases h), by decide +kernel⟩
theorem cb_X4_cellCount (own : String) (index : Nat) : hw_CB own index yX4_cellCount cX4_cellCount 1 (some .int) 0 := ⟨⟨by decide +kernel, by decide +kernel, by decide +kernel⟩, (hw_win (w := .code yX4_cellCount cX4_cellCount 1 (some .int)) (by decide +kernel) (by decide +kernel)), (hw_win (w := .initialized yX4_cellCount.cls) (by decide +kernel) (by decide +kernel))⟩
theorem cv_X2_92 : hw_CV RX2 92 yX4_cellCount cX4_cellCount 1 (some .int) 0 := ⟨cb_X4_cellCount _ _, (hw_win (w := .methodLink RX2 92 yX4_cellCount) (by decide +kernel) (by decide +kernel)), (hw_win (w := .instanceMethod yX4_cellCount) (by decide +kernel) (by decide +kernel)), (hw_win (w := .selects yX4_cellCount.cls yX4_cellCount yX4_cellCount) (by decide +kernel) (by decide +kernel))⟩
theorem fd_X2_96 : hw_FD RX2 96 2 1 := ⟨RX1, TX1, 3, "MeltPool$Melt", rfl, by decide, iw_X1, (hw_win (w := .fieldLink RX2 96 "MeltPool$Melt" (TX1 1).2.1 (TX1 1).2.2.1) (by decide +kernel) (by decide +kernel)), Or.inl rfl⟩
theorem fd_X2_99 : hw_FD RX2 99 2 2 := ⟨RX1, TX1, 3, "MeltPool$Melt", rfl, by decide, iw_X1, (hw_win (w := .fieldLink RX2 99 "MeltPool$Melt" (TX1 2).2.1 (TX1 2).2.2.1) (by decide +kernel) (by decide +kernel)), Or.inl rfl⟩
theorem fp_X2_25 : hw_FP RX2 25 3 3 (.int) false := ⟨RX2, TX2, 13, "MeltPool$Piece", tyX2, rfl, by decide, iw_X2, (hw_win (w := .fieldLink RX2 25 "MeltPool$Piece" (TX2 3).2.1 (TX2 3).2.2.1) (by decide +kernel) (by decide +kernel)), Or.inl rfl, tyX2_ok, nmX2, rfl, (fun h => by cases h), by decide +kernel⟩
theorem fp_X2_47 : hw_FP RX2 47 3 7 (.object "MeltPool$Machine") false := ⟨RX2, TX2, 13, "MeltPool$Piece", tyX2, rfl, by decide, iw_X2, (hw_win (w := .fieldLink RX2 47 "MeltPool$Piece" (TX2 7).2.1 (TX2 7).2.2.1) (by decide +kernel) (by decide +kernel)), Or.inl rfl, tyX2_ok, nmX2, rfl, (fun h => by cases h), by decide +kernel⟩
theorem fp_X2_29 : hw_FP RX2 29 3 8 (.int) false := ⟨RX2, TX2, 13, "MeltPool$Piece", tyX2, rfl, by decide, iw_X2, (hw_win (w := .fieldLink RX2 29 "MeltPool$Piece" (TX2 8).2.1 (TX2 8).2.2.1) (by decide +kernel) (by decide +kernel)), Or.inl rfl, tyX2_ok, nmX2, rfl, (fun h => by cases h), by decide +kernel⟩
theorem fp_X2_32 : hw_FP RX2 32 3 9 (.int) false := ⟨RX2, TX2, 13, "MeltPool$Piece", tyX2, rfl, by decide, iw_X2, (hw_win (w := .fieldLink RX2 32 "MeltPool$Piece" (TX2 9).2.1 (TX2 9).2.2.1) (by decide +kernel) (by decide +kernel)), Or.inl rfl, tyX2_ok, nmX2, rfl, (fun h => by cases h), by decide +kernel⟩
theorem fd_X2_51 : hw_FD RX2 51 4 3 := ⟨RX3, TX3, 6, "MeltPool$Powder", rfl, by decide, iw_X3, (hw_win (w := .fieldLink RX2 51 "MeltPool$Powder" (TX3 3).2.1 (TX3 3).2.2.1) (by decide +kernel) (by decide +kernel)), Or.inl rfl⟩
theorem fp_X2_35 : hw_FP RX2 35 3 10 (.int) false := ⟨RX2, TX2, 13, "MeltPool$Piece", tyX2, rfl, by decide, iw_X2, (hw_win (w := .fieldLink RX2 35 "MeltPool$Piece" (TX2 10).2.1 (TX2 10).2.2.1) (by decide +kernel) (by decide +kernel)), Or.inl rfl, tyX2_ok, nmX2, rfl, (fun h => by cases h), by decide +kernel⟩
theorem fd_X2_54 : hw_FD RX2 54 4 4 := ⟨RX3, TX3, 6, "MeltPool$Powder", rfl, by decide, iw_X3, (hw_win (w := .fieldLink RX2 54 "MeltPool$Powder" (TX3 4).2.1 (TX3 4).2.2.1) (by decide +kernel) (by decide +kernel)), Or.inl rfl⟩
theorem fp_X2_38 : hw_FP RX2 38 3 11 (.int) false := ⟨RX2, TX2, 13, "MeltPool$Piece", tyX2, rfl, by decide, iw_X2, (hw_win (w := .fieldLink RX2 38 "MeltPool$Piece" (TX2 11).2.1 (TX2 11).2.2.1) (by decide +kernel) (by decide +kernel)), Or.inl rfl, tyX2_ok, nmX2, rfl, (fun h => by cases h), by decide +kernel⟩
theorem fd_X2_55 : hw_FD RX2 55 4 1 := ⟨RX3, TX3, 6, "MeltPool$Powder", rfl, by decide, iw_X3, (hw_win (w := .fieldLink RX2 55 "MeltPool$Powder" (TX3 1).2.1 (TX3 1).2.2.1) (by decide +kernel) (by decide +kernel)), Or.inl rfl⟩
theorem fp_X2_41 : hw_FP RX2 41 3 12 (.int) false := ⟨RX2, TX2, 13, "MeltPool$Piece", tyX2, rfl, by decide, iw_X2, (hw_win (w := .fieldLink RX2 41 "MeltPool$Piece" (TX2 12).2.1 (TX2 12).2.2.1) (by decide +kernel) (by decide +kernel)), Or.inl rfl, tyX2_ok, nmX2, rfl, (fun h => by cases h), by decide +kernel⟩
theorem th_X5_299_380_303 : hw_TH RX5 299 380 303 "java/lang/IndexOutOfBoundsException" "no such piece" := ⟨by decide +kernel, (hw_win (w := .classLink RX5 299 "java/lang/IndexOutOfBoundsException") (by decide +kernel) (by decide +kernel)), (hw_win (w := .initialized "java/lang/IndexOutOfBoundsException") (by decide +kernel) (by decide +kernel)), by decide +kernel, (fun w h => hw_win ((by decide +kernel : ∀ w ∈ (vx_atS RX5 303 "java/lang/IndexOutOfBoundsException" ["java/lang/RuntimeException", "java/lang/Exception"]).filter goodWord, w ∈ lw_tbl) w h) ((List.mem_filter.mp h).2)), by decide +kernel, by decide +kernel, by decide +kernel⟩
theorem iw_X5 : ∀ w ∈ u_ws RX5 TX5 9, w ∈ hw_ws := fun w h => hw_win ((by decide +kernel : ∀ w ∈ u_ws RX5 TX5 9, w ∈ lw_tbl) w h) ((by decide +kernel : ∀ w ∈ u_ws RX5 TX5 9, goodWord w = true) w h)
theorem fd_X5_46 : hw_FD RX5 46 6 3 := ⟨RX5, TX5, 9, "MeltPool", rfl, by decide, iw_X5, (hw_win (w := .fieldLink RX5 46 "MeltPool" (TX5 3).2.1 (TX5 3).2.2.1) (by decide +kernel) (by decide +kernel)), Or.inl rfl⟩
theorem fd_X5_11 : hw_FD RX5 11 6 0 := ⟨RX5, TX5, 9, "MeltPool", rfl, by decide, iw_X5, (hw_win (w := .fieldLink RX5 11 "MeltPool" (TX5 0).2.1 (TX5 0).2.2.1) (by decide +kernel) (by decide +kernel)), Or.inl rfl⟩
theorem th_X5_299_382_303 : hw_TH RX5 299 382 303 "java/lang/IndexOutOfBoundsException" "no such powder" := ⟨by decide +kernel, (hw_win (w := .classLink RX5 299 "java/lang/IndexOutOfBoundsException") (by decide +kernel) (by decide +kernel)), (hw_win (w := .initialized "java/lang/IndexOutOfBoundsException") (by decide +kernel) (by decide +kernel)), by decide +kernel, (fun w h => hw_win ((by decide +kernel : ∀ w ∈ (vx_atS RX5 303 "java/lang/IndexOutOfBoundsException" ["java/lang/RuntimeException", "java/lang/Exception"]).filter goodWord, w ∈ lw_tbl) w h) ((List.mem_filter.mp h).2)), by decide +kernel, by decide +kernel, by decide +kernel⟩
theorem fd_X5_103 : hw_FD RX5 103 6 4 := ⟨RX5, TX5, 9, "MeltPool", rfl, by decide, iw_X5, (hw_win (w := .fieldLink RX5 103 "MeltPool" (TX5 4).2.1 (TX5 4).2.2.1) (by decide +kernel) (by decide +kernel)), Or.inl rfl⟩
theorem fd_X5_17 : hw_FD RX5 17 6 1 := ⟨RX5, TX5, 9, "MeltPool", rfl, by decide, iw_X5, (hw_win (w := .fieldLink RX5 17 "MeltPool" (TX5 1).2.1 (TX5 1).2.2.1) (by decide +kernel) (by decide +kernel)), Or.inl rfl⟩
theorem th_X5_299_384_303 : hw_TH RX5 299 384 303 "java/lang/IndexOutOfBoundsException" "no such machine" := ⟨by decide +kernel, (hw_win (w := .classLink RX5 299 "java/lang/IndexOutOfBoundsException") (by decide +kernel) (by decide +kernel)), (hw_win (w := .initialized "java/lang/IndexOutOfBoundsException") (by decide +kernel) (by decide +kernel)), by decide +kernel, (fun w h => hw_win ((by decide +kernel : ∀ w ∈ (vx_atS RX5 303 "java/lang/IndexOutOfBoundsException" ["java/lang/RuntimeException", "java/lang/Exception"]).filter goodWord, w ∈ lw_tbl) w h) ((List.mem_filter.mp h).2)), by decide +kernel, by decide +kernel, by decide +kernel⟩
theorem fd_X5_23 : hw_FD RX5 23 6 2 := ⟨RX5, TX5, 9, "MeltPool", rfl, by decide, iw_X5, (hw_win (w := .fieldLink RX5 23 "MeltPool" (TX5 2).2.1 (TX5 2).2.2.1) (by decide +kernel) (by decide +kernel)), Or.inl rfl⟩
theorem th_X5_299_386_303 : hw_TH RX5 299 386 303 "java/lang/IndexOutOfBoundsException" "no such layer" := ⟨by decide +kernel, (hw_win (w := .classLink RX5 299 "java/lang/IndexOutOfBoundsException") (by decide +kernel) (by decide +kernel)), (hw_win (w := .initialized "java/lang/IndexOutOfBoundsException") (by decide +kernel) (by decide +kernel)), by decide +kernel, (fun w h => hw_win ((by decide +kernel : ∀ w ∈ (vx_atS RX5 303 "java/lang/IndexOutOfBoundsException" ["java/lang/RuntimeException", "java/lang/Exception"]).filter goodWord, w ∈ lw_tbl) w h) ((List.mem_filter.mp h).2)), by decide +kernel, by decide +kernel, by decide +kernel⟩
theorem th_X5_96_388_100 : hw_TH RX5 96 388 100 "java/lang/IllegalArgumentException" "way is not 0 to 5" := ⟨by decide +kernel, (hw_win (w := .classLink RX5 96 "java/lang/IllegalArgumentException") (by decide +kernel) (by decide +kernel)), (hw_win (w := .initialized "java/lang/IllegalArgumentException") (by decide +kernel) (by decide +kernel)), by decide +kernel, (fun w h => hw_win ((by decide +kernel : ∀ w ∈ (vx_atS RX5 100 "java/lang/IllegalArgumentException" ["java/lang/RuntimeException", "java/lang/Exception"]).filter goodWord, w ∈ lw_tbl) w h) ((List.mem_filter.mp h).2)), by decide +kernel, by decide +kernel, by decide +kernel⟩
theorem th_X5_96_390_100 : hw_TH RX5 96 390 100 "java/lang/IllegalArgumentException" "power is not 50 to 400" := ⟨by decide +kernel, (hw_win (w := .classLink RX5 96 "java/lang/IllegalArgumentException") (by decide +kernel) (by decide +kernel)), (hw_win (w := .initialized "java/lang/IllegalArgumentException") (by decide +kernel) (by decide +kernel)), by decide +kernel, (fun w h => hw_win ((by decide +kernel : ∀ w ∈ (vx_atS RX5 100 "java/lang/IllegalArgumentException" ["java/lang/RuntimeException", "java/lang/Exception"]).filter goodWord, w ∈ lw_tbl) w h) ((List.mem_filter.mp h).2)), by decide +kernel, by decide +kernel, by decide +kernel⟩
theorem fd_X5_171 : hw_FD RX5 171 3 3 := ⟨RX2, TX2, 13, "MeltPool$Piece", rfl, by decide, iw_X2, (hw_win (w := .fieldLink RX5 171 "MeltPool$Piece" (TX2 3).2.1 (TX2 3).2.2.1) (by decide +kernel) (by decide +kernel)), Or.inl rfl⟩
theorem th_X5_50_392_54 : hw_TH RX5 50 392 54 "java/lang/IllegalStateException" "the piece is no solid any more" := ⟨by decide +kernel, (hw_win (w := .classLink RX5 50 "java/lang/IllegalStateException") (by decide +kernel) (by decide +kernel)), (hw_win (w := .initialized "java/lang/IllegalStateException") (by decide +kernel) (by decide +kernel)), by decide +kernel, (fun w h => hw_win ((by decide +kernel : ∀ w ∈ (vx_atS RX5 54 "java/lang/IllegalStateException" ["java/lang/RuntimeException", "java/lang/Exception"]).filter goodWord, w ∈ lw_tbl) w h) ((List.mem_filter.mp h).2)), by decide +kernel, by decide +kernel, by decide +kernel⟩
theorem fd_X5_162 : hw_FD RX5 162 1 4 := ⟨RX0, TX0, 7, "MeltPool$Machine", rfl, by decide, iw_X0, (hw_win (w := .fieldLink RX5 162 "MeltPool$Machine" (TX0 4).2.1 (TX0 4).2.2.1) (by decide +kernel) (by decide +kernel)), Or.inl rfl⟩
theorem th_X5_50_396_54 : hw_TH RX5 50 396 54 "java/lang/IllegalStateException" "no piece is growing in the machine" := ⟨by decide +kernel, (hw_win (w := .classLink RX5 50 "java/lang/IllegalStateException") (by decide +kernel) (by decide +kernel)), (hw_win (w := .initialized "java/lang/IllegalStateException") (by decide +kernel) (by decide +kernel)), by decide +kernel, (fun w h => hw_win ((by decide +kernel : ∀ w ∈ (vx_atS RX5 54 "java/lang/IllegalStateException" ["java/lang/RuntimeException", "java/lang/Exception"]).filter goodWord, w ∈ lw_tbl) w h) ((List.mem_filter.mp h).2)), by decide +kernel, by decide +kernel, by decide +kernel⟩
set_option maxHeartbeats 4000000 in
set_option maxRecDepth 100000 in
theorem m_X5_energyOf (l : Launch) (Z : hw_Z) (M : hw_M) (p1 : Int32) (s1 : Int32) (hp1 : 0 ≤ p1) (hs1 : 0 < s1) : Met l yX5_energyOf (hw_m yX5_energyOf cX5_energyOf 2 (some .double)) ({ frames := 0, cells := 0, slots := 0, locals := 0 } : Room) (va_Pc [.int p1, .int s1] (hw_P Z M)) (hw_Qd Z (fun r M' => hb_en p1 s1 = r ∧ M = M')) 0 0 (hw_A Z) := by
  refine hw_ofd (by decide +kernel) rfl (Nat.le_of_ble_eq_true rfl) ?_
  intro p e s m below meth c ls Q hx hb hml hown hts hk hnm hI hl hret
  refine lv_iload_n hx hb dX5_energyOf_0 rfl (lv_at hl 0 rfl) ?_
  refine lv_i2d hx hb dX5_energyOf_1 ?_
  refine lv_iload_n hx hb dX5_energyOf_2 rfl (lv_at hl 1 rfl) ?_
  refine lv_i2d hx hb dX5_energyOf_3 ?_
  refine lv_ddiv hx hb dX5_energyOf_4 (hf_n (hf_div (hf_i2d hp1) (hf_i2dp hs1))) ?_
  refine lv_ldc2d (v := 4621819117588971520) hx hb hown (hts _ (hw_win (w := .constantDouble RX5 398 4621819117588971520) (by decide +kernel) (by decide +kernel))) dX5_energyOf_5 ?_
  refine lv_ddiv hx hb dX5_energyOf_8 (hf_n (hb_en_pz hp1 hs1)) ?_
  exact hret hI (⟨rfl, rfl⟩) (Nat.le_of_ble_eq_true rfl) (Nat.le_of_ble_eq_true rfl) dX5_energyOf_9

set_option maxHeartbeats 4000000 in
set_option maxRecDepth 100000 in
theorem m_X2_addLayer (l : Launch) (Z : hw_Z) (M : hw_M) (a : Nat) (so : Nat) (me : Nat) (v0 : Int32) (v3 : Int32) (v6 : Int32) (v8 : Int32) (v9 : Int32) (v10 : Int32) (v11 : Int32) (v12 : Int32) (cu : UInt64) (dn : Nat) (mv : Value) (ca : Nat) (ha : Nat) (sa : Nat) (wa : Nat) (C : Nat → Int64) (H0 : Nat → Int64) (lk : Int32) (ho : Int32) (Wm : Nat → UInt64) (h0 : M a = hw_ob 3 [.int v0, .ref so, .ref me, .int v3, .int (nI dn), .double cu, .int v6, mv, .int v8, .int v9, .int v10, .int v11, .int v12]) (h1 : M so = hw_ob 5 [.ref ca, .ref ha, .ref sa]) (h2 : M ca = hw_al Z 8 C) (h3 : M ha = hw_al Z 8 H0) (h4 : M me = hw_ob 2 [.ref wa, .int lk, .int ho]) (h5 : M wa = hw_ad Z 64 Wm) (hdn : dn < 8) (hp1 : 0 ≤ v8) (hs1 : 0 < v9) (hW : ∀ p, hb_pz (Wm p)) (hcu : hb_pz cu) : Met l yX2_addLayer (hw_m yX2_addLayer cX2_addLayer 3 none) ({ frames := 2, cells := 0, slots := 0, locals := 55 } : Room) (va_Pc [.ref a] (hw_P Z M)) (hw_Qv Z (fun M' => va_up (va_up (va_up M me (hw_ob 2 [.ref wa, .int (lk + nI (hb_ct (hb_lp (C dn) (H0 dn) (hb_en v8 v9) Wm) 64)), .int (ho + nI (hb_ct (hb_hp (C dn) (H0 dn) (hb_en v8 v9) Wm) 64))])) wa (hw_ad Z 64 (hb_wf (C dn) (hb_en v8 v9) Wm))) a (hw_ob 3 [.int v0, .ref so, .ref me, .int v3, .int (nI (dn + 1)), .double (hb_cu cu (hb_pc (H0 dn))), .int v6, mv, .int v8, .int v9, .int v10, .int v11, .int v12]) = M')) 0 0 (hw_A Z) := by
  refine hw_ofv (by decide +kernel) rfl (Nat.le_of_ble_eq_true rfl) ?_
  intro p e s m below meth c ls Q hx hb hml hown hts hk hnm hI hl hret
  refine lv_aload_n hx hb dX2_addLayer_0 rfl (lv_at hl 0 rfl) ?_
  refine hw_get hx hb hts hown hk hI fd_X2_12 h0 rfl dX2_addLayer_1 ?_
  refine hw_get hx hb hts hown hk hI fd_X2_58 h1 rfl dX2_addLayer_4 ?_
  refine lv_aload_n hx hb dX2_addLayer_7 rfl (lv_at hl 0 rfl) ?_
  refine hw_get hx hb hts hown hk hI fd_X2_62 h0 rfl dX2_addLayer_8 ?_
  refine hw_lald hx hb hk hI h3 (j := dn) rfl (by omega) (by decide) dX2_addLayer_11 ?_
  refine lv_lstore_n (lv' := [(1, .long (H0 dn)), (0, .ref a)]) hx hb dX2_addLayer_12 rfl hl (by decide) rfl (fun ls hl => ?_)
  refine lv_aload_n hx hb dX2_addLayer_13 rfl (lv_at hl 1 rfl) ?_
  refine hw_get hx hb hts hown hk hI fd_X2_21 h0 rfl dX2_addLayer_14 ?_
  refine lv_aload_n hx hb dX2_addLayer_17 rfl (lv_at hl 1 rfl) ?_
  refine hw_get hx hb hts hown hk hI fd_X2_12 h0 rfl dX2_addLayer_18 ?_
  refine hw_get hx hb hts hown hk hI fd_X2_65 h1 rfl dX2_addLayer_21 ?_
  refine lv_aload_n hx hb dX2_addLayer_24 rfl (lv_at hl 1 rfl) ?_
  refine hw_get hx hb hts hown hk hI fd_X2_62 h0 rfl dX2_addLayer_25 ?_
  refine hw_lald hx hb hk hI h2 (j := dn) rfl (by omega) (by decide) dX2_addLayer_28 ?_
  refine lv_lload_n hx hb dX2_addLayer_29 rfl (lv_at hl 0 rfl) ?_
  refine lv_aload_n hx hb dX2_addLayer_30 rfl (lv_at hl 1 rfl) ?_
  refine hw_get hx hb hts hown hk hI fd_X2_29 h0 rfl dX2_addLayer_31 ?_
  refine lv_aload_n hx hb dX2_addLayer_34 rfl (lv_at hl 1 rfl) ?_
  refine hw_get hx hb hts hown hk hI fd_X2_32 h0 rfl dX2_addLayer_35 ?_
  refine hw_cd hI (hw_rSN hx hb hml hown hts hk hI (m_X5_energyOf l Z M v8 v9 hp1 hs1) cn_X2_68 ⟨rfl, rfl⟩ ⟨(Nat.le_of_ble_eq_true rfl), (Nat.le_of_ble_eq_true rfl)⟩ rfl hl.1 rfl (Nat.le_of_ble_eq_true rfl) ⟨(Nat.le_of_ble_eq_true rfl), (Nat.le_of_ble_eq_true rfl)⟩ dX2_addLayer_38) (fun r38 M38 H locs hR hI => ?_)
  obtain ⟨rfl, rfl⟩ := hR
  refine hw_cv hI (hw_rV hx hb hml hown hts hk hI (m_X1_shine l Z M me wa lk ho Wm (C dn) (H0 dn) (hb_en v8 v9) h4 h5 (hw_noa h4 h5) hW (hb_en_pz hp1 hs1)) cv_X2_72 h4 rfl rfl ⟨rfl, rfl⟩ ⟨(Nat.le_of_ble_eq_true rfl), (Nat.le_of_ble_eq_true rfl)⟩ rfl hl.1 rfl (Nat.le_of_ble_eq_true rfl) ⟨(Nat.le_of_ble_eq_true rfl), (Nat.le_of_ble_eq_true rfl)⟩ dX2_addLayer_41) (fun M41 H locs hR hI => ?_)
  subst hR
  refine lv_aload_n hx hb dX2_addLayer_44 rfl (lv_at hl 1 rfl) ?_
  refine lv_aload_n hx hb dX2_addLayer_45 rfl (lv_at hl 1 rfl) ?_
  refine hw_get hx hb hts hown hk hI fd_X2_76 (hw_up (hw_up h0 (hw_noo h0 h4 (by decide))) (hw_noa h0 h5)) rfl dX2_addLayer_46 ?_
  refine lv_ldc2d (v := 4604930618986332160) hx hb hown (hts _ (hw_win (w := .constantDouble RX2 80 4604930618986332160) (by decide +kernel) (by decide +kernel))) dX2_addLayer_49 ?_
  refine lv_dmul hx hb dX2_addLayer_52 (hf_n (hf_mul hcu hf_34)) ?_
  refine lv_ldc2d (v := 4593671619917905920) hx hb hown (hts _ (hw_win (w := .constantDouble RX2 82 4593671619917905920) (by decide +kernel) (by decide +kernel))) dX2_addLayer_53 ?_
  refine lv_lload_n hx hb dX2_addLayer_56 rfl (lv_at hl 0 rfl) ?_
  refine hw_ci hI (hw_rS hx hb hml hown hts hk hI (m_J13_bitCount_95d88 l Z (va_up (va_up M me (hw_ob 2 [.ref wa, .int (lk + nI (hb_ct (hb_lp (C dn) (H0 dn) (hb_en v8 v9) Wm) 64)), .int (ho + nI (hb_ct (hb_hp (C dn) (H0 dn) (hb_en v8 v9) Wm) 64))])) wa (hw_ad Z 64 (hb_wf (C dn) (hb_en v8 v9) Wm))) (H0 dn)) cs_X2_84 ⟨rfl, rfl⟩ ⟨(Nat.le_of_ble_eq_true rfl), (Nat.le_of_ble_eq_true rfl)⟩ rfl hl.1 rfl (Nat.le_of_ble_eq_true rfl) ⟨(Nat.le_of_ble_eq_true rfl), (Nat.le_of_ble_eq_true rfl)⟩ dX2_addLayer_57) (fun r57 M57 H locs hR hI => ?_)
  obtain ⟨rfl, rfl⟩ := hR
  refine lv_i2d hx hb dX2_addLayer_60 ?_
  refine lv_dmul hx hb dX2_addLayer_61 (hf_n (hf_mulc hf_18 (hf_i2d (nI_pos' (by have := hb_pc_le (H0 dn); omega))))) ?_
  refine lv_dadd hx hb dX2_addLayer_62 (hf_n (hb_cu_pz hcu (by have := hb_pc_le (H0 dn); omega))) ?_
  refine hw_put (fs' := [.int v0, .ref so, .ref me, .int v3, .int (nI dn), .double (FP.dadd (FP.dmul cu 4604930618986332160) (FP.dmul 4593671619917905920 (FP.i2d (nI (hb_pc (H0 dn)))))), .int v6, mv, .int v8, .int v9, .int v10, .int v11, .int v12]) hx hb hts hown hk hI fp_X2_76 (hw_up (hw_up h0 (hw_noo h0 h4 (by decide))) (hw_noa h0 h5)) (Nat.le_of_ble_eq_true rfl) rfl rfl rfl dX2_addLayer_63 (fun H locs hI => ?_)
  refine lv_aload_n hx hb dX2_addLayer_66 rfl (lv_at hl 1 rfl) ?_
  refine lv_dup hx hb dX2_addLayer_67 rfl ?_
  refine hw_get hx hb hts hown hk hI fd_X2_62 (hw_us _ _ _) rfl dX2_addLayer_68 ?_
  refine lv_iconst (v := nI 1) hx hb dX2_addLayer_71 (by decide) ?_
  refine lv_iadd hx hb dX2_addLayer_72 ?_
  refine hw_ti (nI_add _ _) ?_
  refine hw_put (fs' := [.int v0, .ref so, .ref me, .int v3, .int (nI (dn + 1)), .double (FP.dadd (FP.dmul cu 4604930618986332160) (FP.dmul 4593671619917905920 (FP.i2d (nI (hb_pc (H0 dn)))))), .int v6, mv, .int v8, .int v9, .int v10, .int v11, .int v12]) hx hb hts hown hk hI fp_X2_62 (hw_us _ _ _) (Nat.le_of_ble_eq_true rfl) rfl rfl rfl dX2_addLayer_73 (fun H locs hI => ?_)
  exact hret hI (by rw [bx_uu]; rfl) (Nat.le_of_ble_eq_true rfl) (Nat.le_of_ble_eq_true rfl) dX2_addLayer_76

set_option maxHeartbeats 4000000 in
set_option maxRecDepth 100000 in
theorem m_X2_isStruck (l : Launch) (Z : hw_Z) (M : hw_M) (a : Nat) (so : Nat) (me : Nat) (v0 : Int32) (v3 : Int32) (v6 : Int32) (v8 : Int32) (v9 : Int32) (v10 : Int32) (v11 : Int32) (v12 : Int32) (cu : UInt64) (dn : Nat) (mv : Value) (h0 : M a = hw_ob 3 [.int v0, .ref so, .ref me, .int v3, .int (nI dn), .double cu, .int v6, mv, .int v8, .int v9, .int v10, .int v11, .int v12]) : Met l yX2_isStruck (hw_m yX2_isStruck cX2_isStruck 1 (some .boolean)) ({ frames := 0, cells := 0, slots := 0, locals := 0 } : Room) (va_Pc [.ref a] (hw_P Z M)) (hw_Qi Z (fun r M' => nI (hb_struck cu).toNat = r ∧ M = M')) 0 0 (hw_A Z) := by
  refine hw_ofz (by decide +kernel) rfl (Nat.le_of_ble_eq_true rfl) ?_
  intro p e s m below meth c ls Q hx hb hml hown hts hk hnm hI hl hret
  refine lv_aload_n hx hb dX2_isStruck_0 rfl (lv_at hl 0 rfl) ?_
  refine hw_get hx hb hts hown hk hI fd_X2_76 h0 rfl dX2_isStruck_1 ?_
  refine lv_ldc2d (v := 4611686018427387904) hx hb hown (hts _ (hw_win (w := .constantDouble RX2 90 4611686018427387904) (by decide +kernel) (by decide +kernel))) dX2_isStruck_4 ?_
  refine lv_dcmp hx hb dX2_isStruck_7 ?_
  refine lv_if_le (tgt := 15) hx hb dX2_isStruck_8 (by decide) (fun c8 => ?_) (fun c8 => ?_)
  · refine lv_iconst (v := nI 0) hx hb dX2_isStruck_15 (by decide) ?_
    exact hret hI (Or.inl rfl) (⟨by rw [show hb_struck cu = false from decide_eq_false (hc_gt.mp c8)]; rfl, rfl⟩) (Nat.le_of_ble_eq_true rfl) (Nat.le_of_ble_eq_true rfl) dX2_isStruck_16
  · refine lv_iconst (v := nI 1) hx hb dX2_isStruck_11 (by decide) ?_
    refine lv_goto (tgt := 16) hx hb dX2_isStruck_12 (by decide) ?_
    exact hret hI (Or.inr rfl) (⟨by rw [show hb_struck cu = true from decide_eq_true (Decidable.byContradiction (fun q => c8 (hc_gt.mpr q)))]; rfl, rfl⟩) (Nat.le_of_ble_eq_true rfl) (Nat.le_of_ble_eq_true rfl) dX2_isStruck_16

set_option maxHeartbeats 4000000 in
set_option maxRecDepth 100000 in
theorem m_X2_density (l : Launch) (Z : hw_Z) (M : hw_M) (a : Nat) (so : Nat) (me : Nat) (v0 : Int32) (v3 : Int32) (v6 : Int32) (v8 : Int32) (v9 : Int32) (v10 : Int32) (v11 : Int32) (v12 : Int32) (cu : UInt64) (dn : Nat) (mv : Value) (ca : Nat) (ha : Nat) (sa : Nat) (wa : Nat) (C : Nat → Int64) (lk : Int32) (ho : Int32) (h0 : M a = hw_ob 3 [.int v0, .ref so, .ref me, .int v3, .int (nI dn), .double cu, .int v6, mv, .int v8, .int v9, .int v10, .int v11, .int v12]) (h1 : M so = hw_ob 5 [.ref ca, .ref ha, .ref sa]) (h2 : M ca = hw_al Z 8 C) (h3 : M me = hw_ob 2 [.ref wa, .int lk, .int ho]) : Met l yX2_density (hw_m yX2_density cX2_density 2 (some .double)) ({ frames := 3, cells := 0, slots := 0, locals := 63 } : Room) (va_Pc [.ref a] (hw_P Z M)) (hw_Qd Z (fun r M' => hb_dens lk ho (nI (hb_sm (fun k => hb_pc (C k)) 8)) = r ∧ M = M')) 0 0 (hw_A Z) := by
  refine hw_ofd (by decide +kernel) rfl (Nat.le_of_ble_eq_true rfl) ?_
  intro p e s m below meth c ls Q hx hb hml hown hts hk hnm hI hl hret
  refine lv_aload_n hx hb dX2_density_0 rfl (lv_at hl 0 rfl) ?_
  refine hw_get hx hb hts hown hk hI fd_X2_12 h0 rfl dX2_density_1 ?_
  refine hw_ci hI (hw_rV hx hb hml hown hts hk hI (m_X4_cellCount l Z M so ca ha sa C h1 h2) cv_X2_92 h1 rfl rfl ⟨rfl, rfl⟩ ⟨(Nat.le_of_ble_eq_true rfl), (Nat.le_of_ble_eq_true rfl)⟩ rfl hl.1 rfl (Nat.le_of_ble_eq_true rfl) ⟨(Nat.le_of_ble_eq_true rfl), (Nat.le_of_ble_eq_true rfl)⟩ dX2_density_4) (fun r4 M4 H locs hR hI => ?_)
  obtain ⟨rfl, rfl⟩ := hR
  refine lv_istore_n (lv' := [(1, .int (nI (hb_sm (fun k => hb_pc (C k)) 8))), (0, .ref a)]) hx hb dX2_density_7 rfl hl (by decide) rfl (fun ls hl => ?_)
  refine lv_iload_n hx hb dX2_density_8 rfl (lv_at hl 0 rfl) ?_
  refine lv_if_ne (tgt := 16) hx hb dX2_density_9 (by decide) (fun c9 => ?_) (fun c9 => ?_)
  · refine lv_dconst1 hx hb dX2_density_16 ?_
    refine lv_aload_n hx hb dX2_density_17 rfl (lv_at hl 1 rfl) ?_
    refine hw_get hx hb hts hown hk hI fd_X2_21 h0 rfl dX2_density_18 ?_
    refine hw_get hx hb hts hown hk hI fd_X2_96 h3 rfl dX2_density_21 ?_
    refine lv_aload_n hx hb dX2_density_24 rfl (lv_at hl 1 rfl) ?_
    refine hw_get hx hb hts hown hk hI fd_X2_21 h0 rfl dX2_density_25 ?_
    refine hw_get hx hb hts hown hk hI fd_X2_99 h3 rfl dX2_density_28 ?_
    refine lv_iadd hx hb dX2_density_31 ?_
    refine lv_i2d hx hb dX2_density_32 ?_
    refine lv_iload_n hx hb dX2_density_33 rfl (lv_at hl 0 rfl) ?_
    refine lv_i2d hx hb dX2_density_34 ?_
    refine lv_ddiv hx hb dX2_density_35 (hf_quo _ c9) ?_
    refine lv_dsub hx hb dX2_density_36 (hf_den _ c9) ?_
    exact hret hI (⟨by unfold hb_dens; rw [if_neg c9], rfl⟩) (Nat.le_of_ble_eq_true rfl) (Nat.le_of_ble_eq_true rfl) dX2_density_37
  · refine lv_dconst0 hx hb dX2_density_12 ?_
    refine lv_goto (tgt := 37) hx hb dX2_density_13 (by decide) ?_
    exact hret hI (⟨by unfold hb_dens; rw [if_pos c9], rfl⟩) (Nat.le_of_ble_eq_true rfl) (Nat.le_of_ble_eq_true rfl) dX2_density_37

set_option maxHeartbeats 4000000 in
set_option maxRecDepth 100000 in
theorem m_X2_begin (l : Launch) (Z : hw_Z) (M : hw_M) (a : Nat) (so : Nat) (me : Nat) (v0 : Int32) (v3 : Int32) (v6 : Int32) (v8 : Int32) (v9 : Int32) (v10 : Int32) (v11 : Int32) (v12 : Int32) (cu : UInt64) (dn : Nat) (mv : Value) (b : Nat) (d : Nat) (x1 : Int32) (x2 : Int32) (x3 : Int32) (x4 : Int32) (x5 : Int32) (x6 : Int32) (p1 : Int32) (s1 : Int32) (h0 : M a = hw_ob 3 [.int v0, .ref so, .ref me, .int v3, .int (nI dn), .double cu, .int v6, mv, .int v8, .int v9, .int v10, .int v11, .int v12]) (h1 : M d = hw_ob 4 [.int x1, .int x2, .int x3, .int x4, .int x5, .int x6]) : Met l yX2_begin (hw_m yX2_begin cX2_begin 5 none) ({ frames := 0, cells := 0, slots := 0, locals := 0 } : Room) (va_Pc [.ref a, .ref b, .ref d, .int p1, .int s1] (hw_P Z M)) (hw_Qv Z (fun M' => va_up M a (hw_ob 3 [.int v0, .ref so, .ref me, .int (nI 1), .int (nI dn), .double cu, .int v6, .ref b, .int p1, .int s1, .int x4, .int x5, .int (hb_win x2 p1 s1)]) = M')) 0 0 (hw_A Z) := by
  refine hw_ofv (by decide +kernel) rfl (Nat.le_of_ble_eq_true rfl) ?_
  intro p e s m below meth c ls Q hx hb hml hown hts hk hnm hI hl hret
  refine lv_aload_n hx hb dX2_begin_0 rfl (lv_at hl 0 rfl) ?_
  refine lv_iconst (v := nI 1) hx hb dX2_begin_1 (by decide) ?_
  refine hw_put (fs' := [.int v0, .ref so, .ref me, .int (nI 1), .int (nI dn), .double cu, .int v6, mv, .int v8, .int v9, .int v10, .int v11, .int v12]) hx hb hts hown hk hI fp_X2_25 h0 (Nat.le_of_ble_eq_true rfl) rfl rfl rfl dX2_begin_2 (fun H locs hI => ?_)
  refine lv_aload_n hx hb dX2_begin_5 rfl (lv_at hl 0 rfl) ?_
  refine lv_aload_n hx hb dX2_begin_6 rfl (lv_at hl 1 rfl) ?_
  refine hw_put (fs' := [.int v0, .ref so, .ref me, .int (nI 1), .int (nI dn), .double cu, .int v6, .ref b, .int v8, .int v9, .int v10, .int v11, .int v12]) hx hb hts hown hk hI fp_X2_47 (hw_us _ _ _) (Nat.le_of_ble_eq_true rfl) rfl rfl rfl dX2_begin_7 (fun H locs hI => ?_)
  refine lv_aload_n hx hb dX2_begin_10 rfl (lv_at hl 0 rfl) ?_
  refine lv_iload_n hx hb dX2_begin_11 rfl (lv_at hl 3 rfl) ?_
  refine hw_put (fs' := [.int v0, .ref so, .ref me, .int (nI 1), .int (nI dn), .double cu, .int v6, .ref b, .int p1, .int v9, .int v10, .int v11, .int v12]) hx hb hts hown hk hI fp_X2_29 (hw_us _ _ _) (Nat.le_of_ble_eq_true rfl) rfl rfl rfl dX2_begin_12 (fun H locs hI => ?_)
  refine lv_aload_n hx hb dX2_begin_15 rfl (lv_at hl 0 rfl) ?_
  refine lv_iload hx hb dX2_begin_16 (lv_at hl 4 rfl) ?_
  refine hw_put (fs' := [.int v0, .ref so, .ref me, .int (nI 1), .int (nI dn), .double cu, .int v6, .ref b, .int p1, .int s1, .int v10, .int v11, .int v12]) hx hb hts hown hk hI fp_X2_32 (hw_us _ _ _) (Nat.le_of_ble_eq_true rfl) rfl rfl rfl dX2_begin_18 (fun H locs hI => ?_)
  refine lv_aload_n hx hb dX2_begin_21 rfl (lv_at hl 0 rfl) ?_
  refine lv_aload_n hx hb dX2_begin_22 rfl (lv_at hl 2 rfl) ?_
  refine hw_get hx hb hts hown hk hI fd_X2_51 (hw_up (hw_up (hw_up (hw_up h1 (hw_noo h1 h0 (by decide))) (hw_noo h1 h0 (by decide))) (hw_noo h1 h0 (by decide))) (hw_noo h1 h0 (by decide))) rfl dX2_begin_23 ?_
  refine hw_put (fs' := [.int v0, .ref so, .ref me, .int (nI 1), .int (nI dn), .double cu, .int v6, .ref b, .int p1, .int s1, .int x4, .int v11, .int v12]) hx hb hts hown hk hI fp_X2_35 (hw_us _ _ _) (Nat.le_of_ble_eq_true rfl) rfl rfl rfl dX2_begin_26 (fun H locs hI => ?_)
  refine lv_aload_n hx hb dX2_begin_29 rfl (lv_at hl 0 rfl) ?_
  refine lv_aload_n hx hb dX2_begin_30 rfl (lv_at hl 2 rfl) ?_
  refine hw_get hx hb hts hown hk hI fd_X2_54 (hw_up (hw_up (hw_up (hw_up (hw_up h1 (hw_noo h1 h0 (by decide))) (hw_noo h1 h0 (by decide))) (hw_noo h1 h0 (by decide))) (hw_noo h1 h0 (by decide))) (hw_noo h1 h0 (by decide))) rfl dX2_begin_31 ?_
  refine hw_put (fs' := [.int v0, .ref so, .ref me, .int (nI 1), .int (nI dn), .double cu, .int v6, .ref b, .int p1, .int s1, .int x4, .int x5, .int v12]) hx hb hts hown hk hI fp_X2_38 (hw_us _ _ _) (Nat.le_of_ble_eq_true rfl) rfl rfl rfl dX2_begin_34 (fun H locs hI => ?_)
  refine lv_aload_n hx hb dX2_begin_37 rfl (lv_at hl 0 rfl) ?_
  refine lv_aload_n hx hb dX2_begin_38 rfl (lv_at hl 2 rfl) ?_
  refine hw_get hx hb hts hown hk hI fd_X2_55 (hw_up (hw_up (hw_up (hw_up (hw_up (hw_up h1 (hw_noo h1 h0 (by decide))) (hw_noo h1 h0 (by decide))) (hw_noo h1 h0 (by decide))) (hw_noo h1 h0 (by decide))) (hw_noo h1 h0 (by decide))) (hw_noo h1 h0 (by decide))) rfl dX2_begin_39 ?_
  refine lv_sipush (v := nI 401) hx hb dX2_begin_42 (by decide) ?_
  refine lv_imul hx hb dX2_begin_45 ?_
  refine lv_iload_n hx hb dX2_begin_46 rfl (lv_at hl 3 rfl) ?_
  refine lv_iadd hx hb dX2_begin_47 ?_
  refine lv_bipush (v := nI 21) hx hb dX2_begin_48 (by decide) ?_
  refine lv_imul hx hb dX2_begin_50 ?_
  refine lv_iload hx hb dX2_begin_51 (lv_at hl 4 rfl) ?_
  refine lv_iadd hx hb dX2_begin_53 ?_
  refine hw_put (fs' := [.int v0, .ref so, .ref me, .int (nI 1), .int (nI dn), .double cu, .int v6, .ref b, .int p1, .int s1, .int x4, .int x5, .int ((((x2 * (nI 401)) + p1) * (nI 21)) + s1)]) hx hb hts hown hk hI fp_X2_41 (hw_us _ _ _) (Nat.le_of_ble_eq_true rfl) rfl rfl rfl dX2_begin_54 (fun H locs hI => ?_)
  exact hret hI (by simp only [bx_uu]; rfl) (Nat.le_of_ble_eq_true rfl) (Nat.le_of_ble_eq_true rfl) dX2_begin_57

set_option maxHeartbeats 4000000 in
set_option maxRecDepth 100000 in
theorem m_X5_pieceAt (l : Launch) (hst : l.stackTraces = false) (Z : hw_Z) (M : hw_M) (o : Nat) (aP : Nat) (aW : Nat) (aM : Nat) (ts : Nat) (tm : Nat) (np : Nat) (nw : Nat) (g5 : Int32) (g6 : Int32) (k : Int32) (aa : Nat → Nat) (h0 : M o = hw_ob 6 [.ref aP, .ref aW, .ref aM, .int (nI np), .int (nI nw), .int g5, .int g6, .ref ts, .ref tm]) (h1 : M aP = hw_ar Z 3 4 (fun j => some (aa j))) (hlim : np ≤ 4) : vx_Met l yX5_pieceAt (hw_m yX5_pieceAt cX5_pieceAt 2 (some (.object "MeltPool$Piece"))) ({ frames := 6, cells := 1, slots := 6, locals := 82 } : Room) (va_Pc [.ref o, .int k] (hw_P Z M)) (hw_Qr Z (fun r M' => (hb_ok k np ∧ aa (hb_ix k) = r) ∧ M = M')) (hw_X Z (fun E M' => (E = "java/lang/IndexOutOfBoundsException" ∧ ¬ hb_ok k np) ∧ M = M')) 1 6 (hw_A Z) := by
  refine hw_xofr hst (by decide +kernel) rfl (Or.inl ⟨_, rfl⟩) (Nat.le_of_ble_eq_true rfl) ?_
  intro p e s m below meth c ls Q hx hb hml hown hts hk hnm hI hl hret hxo hthr hthrW
  refine lv_iload_n hx hb dX5_pieceAt_0 rfl (lv_at hl 1 rfl) ?_
  refine lv_if_lt (tgt := 12) hx hb dX5_pieceAt_1 (by decide) (fun c1 => ?_) (fun c1 => ?_)
  · exact hthrW hI th_X5_299_380_303 hl.1 dX5_pieceAt_12 dX5_pieceAt_15 dX5_pieceAt_16 dX5_pieceAt_19 dX5_pieceAt_22 (Nat.le_of_ble_eq_true rfl) (Nat.le_of_ble_eq_true rfl) (Nat.le_of_ble_eq_true rfl) (Nat.le_of_ble_eq_true rfl) (⟨⟨rfl, hb_nok1 c1⟩, rfl⟩) (Nat.le_of_ble_eq_true rfl) (Nat.le_of_ble_eq_true rfl)
  · refine lv_iload_n hx hb dX5_pieceAt_4 rfl (lv_at hl 1 rfl) ?_
    refine lv_aload_n hx hb dX5_pieceAt_5 rfl (lv_at hl 0 rfl) ?_
    refine hw_get hx hb hts hown hk hI fd_X5_46 h0 rfl dX5_pieceAt_6 ?_
    refine lv_icmp_lt (tgt := 23) hx hb dX5_pieceAt_9 (by decide) (fun c9 => ?_) (fun c9 => ?_)
    · have hok : hb_ok k np := hb_oki c1 c9
      obtain ⟨hj, hkj⟩ := hb_okx (by omega) hok
      refine lv_aload_n hx hb dX5_pieceAt_23 rfl (lv_at hl 0 rfl) ?_
      refine hw_get hx hb hts hown hk hI fd_X5_11 h0 rfl dX5_pieceAt_24 ?_
      refine lv_iload_n hx hb dX5_pieceAt_27 rfl (lv_at hl 1 rfl) ?_
      refine hw_aald hx hb hk hI 3 (v := .ref (aa (hb_ix k))) h1 rfl (j := hb_ix k) hkj (by omega) (by decide) rfl dX5_pieceAt_28 ?_
      exact hret hI (⟨⟨hok, rfl⟩, rfl⟩) (Nat.le_of_ble_eq_true rfl) (Nat.le_of_ble_eq_true rfl) dX5_pieceAt_29
    · exact hthrW hI th_X5_299_380_303 hl.1 dX5_pieceAt_12 dX5_pieceAt_15 dX5_pieceAt_16 dX5_pieceAt_19 dX5_pieceAt_22 (Nat.le_of_ble_eq_true rfl) (Nat.le_of_ble_eq_true rfl) (Nat.le_of_ble_eq_true rfl) (Nat.le_of_ble_eq_true rfl) (⟨⟨rfl, hb_nok2 c9⟩, rfl⟩) (Nat.le_of_ble_eq_true rfl) (Nat.le_of_ble_eq_true rfl)

set_option maxHeartbeats 4000000 in
set_option maxRecDepth 100000 in
theorem m_X5_powderAt (l : Launch) (hst : l.stackTraces = false) (Z : hw_Z) (M : hw_M) (o : Nat) (aP : Nat) (aW : Nat) (aM : Nat) (ts : Nat) (tm : Nat) (np : Nat) (nw : Nat) (g5 : Int32) (g6 : Int32) (k : Int32) (aa : Nat → Nat) (h0 : M o = hw_ob 6 [.ref aP, .ref aW, .ref aM, .int (nI np), .int (nI nw), .int g5, .int g6, .ref ts, .ref tm]) (h1 : M aW = hw_ar Z 4 6 (fun j => some (aa j))) (hlim : nw ≤ 6) : vx_Met l yX5_powderAt (hw_m yX5_powderAt cX5_powderAt 2 (some (.object "MeltPool$Powder"))) ({ frames := 6, cells := 1, slots := 6, locals := 82 } : Room) (va_Pc [.ref o, .int k] (hw_P Z M)) (hw_Qr Z (fun r M' => (hb_ok k nw ∧ aa (hb_ix k) = r) ∧ M = M')) (hw_X Z (fun E M' => (E = "java/lang/IndexOutOfBoundsException" ∧ ¬ hb_ok k nw) ∧ M = M')) 1 6 (hw_A Z) := by
  refine hw_xofr hst (by decide +kernel) rfl (Or.inl ⟨_, rfl⟩) (Nat.le_of_ble_eq_true rfl) ?_
  intro p e s m below meth c ls Q hx hb hml hown hts hk hnm hI hl hret hxo hthr hthrW
  refine lv_iload_n hx hb dX5_powderAt_0 rfl (lv_at hl 1 rfl) ?_
  refine lv_if_lt (tgt := 12) hx hb dX5_powderAt_1 (by decide) (fun c1 => ?_) (fun c1 => ?_)
  · exact hthrW hI th_X5_299_382_303 hl.1 dX5_powderAt_12 dX5_powderAt_15 dX5_powderAt_16 dX5_powderAt_19 dX5_powderAt_22 (Nat.le_of_ble_eq_true rfl) (Nat.le_of_ble_eq_true rfl) (Nat.le_of_ble_eq_true rfl) (Nat.le_of_ble_eq_true rfl) (⟨⟨rfl, hb_nok1 c1⟩, rfl⟩) (Nat.le_of_ble_eq_true rfl) (Nat.le_of_ble_eq_true rfl)
  · refine lv_iload_n hx hb dX5_powderAt_4 rfl (lv_at hl 1 rfl) ?_
    refine lv_aload_n hx hb dX5_powderAt_5 rfl (lv_at hl 0 rfl) ?_
    refine hw_get hx hb hts hown hk hI fd_X5_103 h0 rfl dX5_powderAt_6 ?_
    refine lv_icmp_lt (tgt := 23) hx hb dX5_powderAt_9 (by decide) (fun c9 => ?_) (fun c9 => ?_)
    · have hok : hb_ok k nw := hb_oki c1 c9
      obtain ⟨hj, hkj⟩ := hb_okx (by omega) hok
      refine lv_aload_n hx hb dX5_powderAt_23 rfl (lv_at hl 0 rfl) ?_
      refine hw_get hx hb hts hown hk hI fd_X5_17 h0 rfl dX5_powderAt_24 ?_
      refine lv_iload_n hx hb dX5_powderAt_27 rfl (lv_at hl 1 rfl) ?_
      refine hw_aald hx hb hk hI 4 (v := .ref (aa (hb_ix k))) h1 rfl (j := hb_ix k) hkj (by omega) (by decide) rfl dX5_powderAt_28 ?_
      exact hret hI (⟨⟨hok, rfl⟩, rfl⟩) (Nat.le_of_ble_eq_true rfl) (Nat.le_of_ble_eq_true rfl) dX5_powderAt_29
    · exact hthrW hI th_X5_299_382_303 hl.1 dX5_powderAt_12 dX5_powderAt_15 dX5_powderAt_16 dX5_powderAt_19 dX5_powderAt_22 (Nat.le_of_ble_eq_true rfl) (Nat.le_of_ble_eq_true rfl) (Nat.le_of_ble_eq_true rfl) (Nat.le_of_ble_eq_true rfl) (⟨⟨rfl, hb_nok2 c9⟩, rfl⟩) (Nat.le_of_ble_eq_true rfl) (Nat.le_of_ble_eq_true rfl)

set_option maxHeartbeats 4000000 in
set_option maxRecDepth 100000 in
theorem m_X5_machineAt (l : Launch) (hst : l.stackTraces = false) (Z : hw_Z) (M : hw_M) (o : Nat) (aP : Nat) (aW : Nat) (aM : Nat) (ts : Nat) (tm : Nat) (np : Nat) (nw : Nat) (g5 : Int32) (g6 : Int32) (k : Int32) (aa : Nat → Nat) (h0 : M o = hw_ob 6 [.ref aP, .ref aW, .ref aM, .int (nI np), .int (nI nw), .int g5, .int g6, .ref ts, .ref tm]) (h1 : M aM = hw_ar Z 5 2 (fun j => some (aa j))) : vx_Met l yX5_machineAt (hw_m yX5_machineAt cX5_machineAt 2 (some (.object "MeltPool$Machine"))) ({ frames := 6, cells := 1, slots := 6, locals := 82 } : Room) (va_Pc [.ref o, .int k] (hw_P Z M)) (hw_Qr Z (fun r M' => (hb_ok k 2 ∧ aa (hb_ix k) = r) ∧ M = M')) (hw_X Z (fun E M' => (E = "java/lang/IndexOutOfBoundsException" ∧ ¬ hb_ok k 2) ∧ M = M')) 1 6 (hw_A Z) := by
  refine hw_xofr hst (by decide +kernel) rfl (Or.inl ⟨_, rfl⟩) (Nat.le_of_ble_eq_true rfl) ?_
  intro p e s m below meth c ls Q hx hb hml hown hts hk hnm hI hl hret hxo hthr hthrW
  refine lv_iload_n hx hb dX5_machineAt_0 rfl (lv_at hl 1 rfl) ?_
  refine lv_if_lt (tgt := 9) hx hb dX5_machineAt_1 (by decide) (fun c1 => ?_) (fun c1 => ?_)
  · exact hthrW hI th_X5_299_384_303 hl.1 dX5_machineAt_9 dX5_machineAt_12 dX5_machineAt_13 dX5_machineAt_16 dX5_machineAt_19 (Nat.le_of_ble_eq_true rfl) (Nat.le_of_ble_eq_true rfl) (Nat.le_of_ble_eq_true rfl) (Nat.le_of_ble_eq_true rfl) (⟨⟨rfl, hb_nok1 c1⟩, rfl⟩) (Nat.le_of_ble_eq_true rfl) (Nat.le_of_ble_eq_true rfl)
  · refine lv_iload_n hx hb dX5_machineAt_4 rfl (lv_at hl 1 rfl) ?_
    refine lv_iconst (v := nI 2) hx hb dX5_machineAt_5 (by decide) ?_
    refine lv_icmp_lt (tgt := 20) hx hb dX5_machineAt_6 (by decide) (fun c6 => ?_) (fun c6 => ?_)
    · have hok : hb_ok k 2 := hb_oki c1 c6
      obtain ⟨hj, hkj⟩ := hb_okx (by decide) hok
      refine lv_aload_n hx hb dX5_machineAt_20 rfl (lv_at hl 0 rfl) ?_
      refine hw_get hx hb hts hown hk hI fd_X5_23 h0 rfl dX5_machineAt_21 ?_
      refine lv_iload_n hx hb dX5_machineAt_24 rfl (lv_at hl 1 rfl) ?_
      refine hw_aald hx hb hk hI 5 (v := .ref (aa (hb_ix k))) h1 rfl (j := hb_ix k) hkj (by omega) (by decide) rfl dX5_machineAt_25 ?_
      exact hret hI (⟨⟨hok, rfl⟩, rfl⟩) (Nat.le_of_ble_eq_true rfl) (Nat.le_of_ble_eq_true rfl) dX5_machineAt_26
    · exact hthrW hI th_X5_299_384_303 hl.1 dX5_machineAt_9 dX5_machineAt_12 dX5_machineAt_13 dX5_machineAt_16 dX5_machineAt_19 (Nat.le_of_ble_eq_true rfl) (Nat.le_of_ble_eq_true rfl) (Nat.le_of_ble_eq_true rfl) (Nat.le_of_ble_eq_true rfl) (⟨⟨rfl, hb_nok2 c6⟩, rfl⟩) (Nat.le_of_ble_eq_true rfl) (Nat.le_of_ble_eq_true rfl)

set_option maxHeartbeats 4000000 in
set_option maxRecDepth 100000 in
theorem m_X5_pieceAt_k (l : Launch) (Z : hw_Z) (M : hw_M) (o : Nat) (aP : Nat) (aW : Nat) (aM : Nat) (ts : Nat) (tm : Nat) (np : Nat) (nw : Nat) (g5 : Int32) (g6 : Int32) (k : Nat) (aa : Nat → Nat) (h0 : M o = hw_ob 6 [.ref aP, .ref aW, .ref aM, .int (nI np), .int (nI nw), .int g5, .int g6, .ref ts, .ref tm]) (h1 : M aP = hw_ar Z 3 4 (fun j => some (aa j))) (hlim : np ≤ 4) (hkn : k < np) : Met l yX5_pieceAt (hw_m yX5_pieceAt cX5_pieceAt 2 (some (.object "MeltPool$Piece"))) ({ frames := 0, cells := 0, slots := 0, locals := 0 } : Room) (va_Pc [.ref o, .int (nI k)] (hw_P Z M)) (hw_Qr Z (fun r M' => aa k = r ∧ M = M')) 0 0 (hw_A Z) := by
  refine hw_ofr (by decide +kernel) rfl (Or.inl ⟨_, rfl⟩) (Nat.le_of_ble_eq_true rfl) ?_
  intro p e s m below meth c ls Q hx hb hml hown hts hk hnm hI hl hret
  refine lv_iload_n hx hb dX5_pieceAt_0 rfl (lv_at hl 1 rfl) ?_
  refine lv_if_lt (tgt := 12) hx hb dX5_pieceAt_1 (by decide) (fun hc => absurd hc (nI_pos (by omega))) (fun _ => ?_)
  refine lv_iload_n hx hb dX5_pieceAt_4 rfl (lv_at hl 1 rfl) ?_
  refine lv_aload_n hx hb dX5_pieceAt_5 rfl (lv_at hl 0 rfl) ?_
  refine hw_get hx hb hts hown hk hI fd_X5_46 h0 rfl dX5_pieceAt_6 ?_
  refine lv_icmp_lt (tgt := 23) hx hb dX5_pieceAt_9 (by decide) (fun _ => ?_) (fun hc => absurd (nI_lt (by omega) (by omega)) hc)
  refine lv_aload_n hx hb dX5_pieceAt_23 rfl (lv_at hl 0 rfl) ?_
  refine hw_get hx hb hts hown hk hI fd_X5_11 h0 rfl dX5_pieceAt_24 ?_
  refine lv_iload_n hx hb dX5_pieceAt_27 rfl (lv_at hl 1 rfl) ?_
  refine hw_aald hx hb hk hI 3 (v := .ref (aa k)) h1 rfl (j := k) rfl (by omega) (by decide) rfl dX5_pieceAt_28 ?_
  exact hret hI (⟨rfl, rfl⟩) (Nat.le_of_ble_eq_true rfl) (Nat.le_of_ble_eq_true rfl) dX5_pieceAt_29

set_option maxHeartbeats 4000000 in
set_option maxRecDepth 100000 in
theorem m_X5_powderAt_k (l : Launch) (Z : hw_Z) (M : hw_M) (o : Nat) (aP : Nat) (aW : Nat) (aM : Nat) (ts : Nat) (tm : Nat) (np : Nat) (nw : Nat) (g5 : Int32) (g6 : Int32) (k : Nat) (aa : Nat → Nat) (h0 : M o = hw_ob 6 [.ref aP, .ref aW, .ref aM, .int (nI np), .int (nI nw), .int g5, .int g6, .ref ts, .ref tm]) (h1 : M aW = hw_ar Z 4 6 (fun j => some (aa j))) (hlim : nw ≤ 6) (hkn : k < nw) : Met l yX5_powderAt (hw_m yX5_powderAt cX5_powderAt 2 (some (.object "MeltPool$Powder"))) ({ frames := 0, cells := 0, slots := 0, locals := 0 } : Room) (va_Pc [.ref o, .int (nI k)] (hw_P Z M)) (hw_Qr Z (fun r M' => aa k = r ∧ M = M')) 0 0 (hw_A Z) := by
  refine hw_ofr (by decide +kernel) rfl (Or.inl ⟨_, rfl⟩) (Nat.le_of_ble_eq_true rfl) ?_
  intro p e s m below meth c ls Q hx hb hml hown hts hk hnm hI hl hret
  refine lv_iload_n hx hb dX5_powderAt_0 rfl (lv_at hl 1 rfl) ?_
  refine lv_if_lt (tgt := 12) hx hb dX5_powderAt_1 (by decide) (fun hc => absurd hc (nI_pos (by omega))) (fun _ => ?_)
  refine lv_iload_n hx hb dX5_powderAt_4 rfl (lv_at hl 1 rfl) ?_
  refine lv_aload_n hx hb dX5_powderAt_5 rfl (lv_at hl 0 rfl) ?_
  refine hw_get hx hb hts hown hk hI fd_X5_103 h0 rfl dX5_powderAt_6 ?_
  refine lv_icmp_lt (tgt := 23) hx hb dX5_powderAt_9 (by decide) (fun _ => ?_) (fun hc => absurd (nI_lt (by omega) (by omega)) hc)
  refine lv_aload_n hx hb dX5_powderAt_23 rfl (lv_at hl 0 rfl) ?_
  refine hw_get hx hb hts hown hk hI fd_X5_17 h0 rfl dX5_powderAt_24 ?_
  refine lv_iload_n hx hb dX5_powderAt_27 rfl (lv_at hl 1 rfl) ?_
  refine hw_aald hx hb hk hI 4 (v := .ref (aa k)) h1 rfl (j := k) rfl (by omega) (by decide) rfl dX5_powderAt_28 ?_
  exact hret hI (⟨rfl, rfl⟩) (Nat.le_of_ble_eq_true rfl) (Nat.le_of_ble_eq_true rfl) dX5_powderAt_29

set_option maxHeartbeats 4000000 in
set_option maxRecDepth 100000 in
theorem m_X5_machineAt_k (l : Launch) (Z : hw_Z) (M : hw_M) (o : Nat) (aP : Nat) (aW : Nat) (aM : Nat) (ts : Nat) (tm : Nat) (np : Nat) (nw : Nat) (g5 : Int32) (g6 : Int32) (k : Nat) (aa : Nat → Nat) (h0 : M o = hw_ob 6 [.ref aP, .ref aW, .ref aM, .int (nI np), .int (nI nw), .int g5, .int g6, .ref ts, .ref tm]) (h1 : M aM = hw_ar Z 5 2 (fun j => some (aa j))) (hkn : k < 2) : Met l yX5_machineAt (hw_m yX5_machineAt cX5_machineAt 2 (some (.object "MeltPool$Machine"))) ({ frames := 0, cells := 0, slots := 0, locals := 0 } : Room) (va_Pc [.ref o, .int (nI k)] (hw_P Z M)) (hw_Qr Z (fun r M' => aa k = r ∧ M = M')) 0 0 (hw_A Z) := by
  refine hw_ofr (by decide +kernel) rfl (Or.inl ⟨_, rfl⟩) (Nat.le_of_ble_eq_true rfl) ?_
  intro p e s m below meth c ls Q hx hb hml hown hts hk hnm hI hl hret
  refine lv_iload_n hx hb dX5_machineAt_0 rfl (lv_at hl 1 rfl) ?_
  refine lv_if_lt (tgt := 9) hx hb dX5_machineAt_1 (by decide) (fun hc => absurd hc (nI_pos (by omega))) (fun _ => ?_)
  refine lv_iload_n hx hb dX5_machineAt_4 rfl (lv_at hl 1 rfl) ?_
  refine lv_iconst (v := nI 2) hx hb dX5_machineAt_5 (by decide) ?_
  refine lv_icmp_lt (tgt := 20) hx hb dX5_machineAt_6 (by decide) (fun _ => ?_) (fun hc => absurd (nI_lt (by omega) (by omega)) hc)
  refine lv_aload_n hx hb dX5_machineAt_20 rfl (lv_at hl 0 rfl) ?_
  refine hw_get hx hb hts hown hk hI fd_X5_23 h0 rfl dX5_machineAt_21 ?_
  refine lv_iload_n hx hb dX5_machineAt_24 rfl (lv_at hl 1 rfl) ?_
  refine hw_aald hx hb hk hI 5 (v := .ref (aa k)) h1 rfl (j := k) rfl (by omega) (by decide) rfl dX5_machineAt_25 ?_
  exact hret hI (⟨rfl, rfl⟩) (Nat.le_of_ble_eq_true rfl) (Nat.le_of_ble_eq_true rfl) dX5_machineAt_26

set_option maxHeartbeats 4000000 in
set_option maxRecDepth 100000 in
theorem m_X5_checkLayer_k (l : Launch) (Z : hw_Z) (M : hw_M) (k : Nat) (hkn : k < 8) : Met l yX5_checkLayer (hw_m yX5_checkLayer cX5_checkLayer 1 none) ({ frames := 0, cells := 0, slots := 0, locals := 0 } : Room) (va_Pc [.int (nI k)] (hw_P Z M)) (hw_Qv Z (fun M' => M = M')) 0 0 (hw_A Z) := by
  refine hw_ofv (by decide +kernel) rfl (Nat.le_of_ble_eq_true rfl) ?_
  intro p e s m below meth c ls Q hx hb hml hown hts hk hnm hI hl hret
  refine lv_iload_n hx hb dX5_checkLayer_0 rfl (lv_at hl 0 rfl) ?_
  refine lv_if_lt (tgt := 10) hx hb dX5_checkLayer_1 (by decide) (fun hc => absurd hc (nI_pos (by omega))) (fun _ => ?_)
  refine lv_iload_n hx hb dX5_checkLayer_4 rfl (lv_at hl 0 rfl) ?_
  refine lv_bipush (v := nI 8) hx hb dX5_checkLayer_5 (by decide) ?_
  refine lv_icmp_lt (tgt := 21) hx hb dX5_checkLayer_7 (by decide) (fun _ => ?_) (fun hc => absurd (nI_lt (by omega) (by omega)) hc)
  exact hret hI rfl (Nat.le_of_ble_eq_true rfl) (Nat.le_of_ble_eq_true rfl) dX5_checkLayer_21

set_option maxHeartbeats 4000000 in
set_option maxRecDepth 100000 in
theorem m_X5_checkWay_k (l : Launch) (Z : hw_Z) (M : hw_M) (k : Nat) (hkn : k < 6) : Met l yX5_checkWay (hw_m yX5_checkWay cX5_checkWay 1 none) ({ frames := 0, cells := 0, slots := 0, locals := 0 } : Room) (va_Pc [.int (nI k)] (hw_P Z M)) (hw_Qv Z (fun M' => M = M')) 0 0 (hw_A Z) := by
  refine hw_ofv (by decide +kernel) rfl (Nat.le_of_ble_eq_true rfl) ?_
  intro p e s m below meth c ls Q hx hb hml hown hts hk hnm hI hl hret
  refine lv_iload_n hx hb dX5_checkWay_0 rfl (lv_at hl 0 rfl) ?_
  refine lv_if_lt (tgt := 10) hx hb dX5_checkWay_1 (by decide) (fun hc => absurd hc (nI_pos (by omega))) (fun _ => ?_)
  refine lv_iload_n hx hb dX5_checkWay_4 rfl (lv_at hl 0 rfl) ?_
  refine lv_bipush (v := nI 6) hx hb dX5_checkWay_5 (by decide) ?_
  refine lv_icmp_lt (tgt := 21) hx hb dX5_checkWay_7 (by decide) (fun _ => ?_) (fun hc => absurd (nI_lt (by omega) (by omega)) hc)
  exact hret hI rfl (Nat.le_of_ble_eq_true rfl) (Nat.le_of_ble_eq_true rfl) dX5_checkWay_21

set_option maxHeartbeats 4000000 in
set_option maxRecDepth 100000 in
theorem m_X5_checkPower_k (l : Launch) (Z : hw_Z) (M : hw_M) (k : Int32) (hpw : hb_pw k) : Met l yX5_checkPower (hw_m yX5_checkPower cX5_checkPower 1 none) ({ frames := 0, cells := 0, slots := 0, locals := 0 } : Room) (va_Pc [.int k] (hw_P Z M)) (hw_Qv Z (fun M' => M = M')) 0 0 (hw_A Z) := by
  refine hw_ofv (by decide +kernel) rfl (Nat.le_of_ble_eq_true rfl) ?_
  intro p e s m below meth c ls Q hx hb hml hown hts hk hnm hI hl hret
  refine lv_iload_n hx hb dX5_checkPower_0 rfl (lv_at hl 0 rfl) ?_
  refine lv_bipush (v := nI 50) hx hb dX5_checkPower_1 (by decide) ?_
  refine lv_icmp_lt (tgt := 13) hx hb dX5_checkPower_3 (by decide) (fun hc => absurd hc hpw.1) (fun _ => ?_)
  refine lv_iload_n hx hb dX5_checkPower_6 rfl (lv_at hl 0 rfl) ?_
  refine lv_sipush (v := nI 400) hx hb dX5_checkPower_7 (by decide) ?_
  refine lv_icmp_le (tgt := 24) hx hb dX5_checkPower_10 (by decide) (fun _ => ?_) (fun hc => absurd hpw.2 hc)
  exact hret hI rfl (Nat.le_of_ble_eq_true rfl) (Nat.le_of_ble_eq_true rfl) dX5_checkPower_24

set_option maxHeartbeats 4000000 in
set_option maxRecDepth 100000 in
theorem m_X5_checkLayer (l : Launch) (hst : l.stackTraces = false) (Z : hw_Z) (M : hw_M) (k : Int32) : vx_Met l yX5_checkLayer (hw_m yX5_checkLayer cX5_checkLayer 1 none) ({ frames := 6, cells := 1, slots := 6, locals := 82 } : Room) (va_Pc [.int k] (hw_P Z M)) (hw_Qv Z (fun M' => hb_ok k 8 ∧ M = M')) (hw_X Z (fun E M' => (E = "java/lang/IndexOutOfBoundsException" ∧ ¬ hb_ok k 8) ∧ M = M')) 1 6 (hw_A Z) := by
  refine hw_xofv hst (by decide +kernel) rfl (Nat.le_of_ble_eq_true rfl) ?_
  intro p e s m below meth c ls Q hx hb hml hown hts hk hnm hI hl hret hxo hthr hthrW
  refine lv_iload_n hx hb dX5_checkLayer_0 rfl (lv_at hl 0 rfl) ?_
  refine lv_if_lt (tgt := 10) hx hb dX5_checkLayer_1 (by decide) (fun c1 => ?_) (fun c1 => ?_)
  · exact hthrW hI th_X5_299_386_303 hl.1 dX5_checkLayer_10 dX5_checkLayer_13 dX5_checkLayer_14 dX5_checkLayer_17 dX5_checkLayer_20 (Nat.le_of_ble_eq_true rfl) (Nat.le_of_ble_eq_true rfl) (Nat.le_of_ble_eq_true rfl) (Nat.le_of_ble_eq_true rfl) (⟨⟨rfl, hb_nok1 c1⟩, rfl⟩) (Nat.le_of_ble_eq_true rfl) (Nat.le_of_ble_eq_true rfl)
  · refine lv_iload_n hx hb dX5_checkLayer_4 rfl (lv_at hl 0 rfl) ?_
    refine lv_bipush (v := nI 8) hx hb dX5_checkLayer_5 (by decide) ?_
    refine lv_icmp_lt (tgt := 21) hx hb dX5_checkLayer_7 (by decide) (fun c7 => ?_) (fun c7 => ?_)
    · exact hret hI (⟨hb_oki c1 c7, rfl⟩) (Nat.le_of_ble_eq_true rfl) (Nat.le_of_ble_eq_true rfl) dX5_checkLayer_21
    · exact hthrW hI th_X5_299_386_303 hl.1 dX5_checkLayer_10 dX5_checkLayer_13 dX5_checkLayer_14 dX5_checkLayer_17 dX5_checkLayer_20 (Nat.le_of_ble_eq_true rfl) (Nat.le_of_ble_eq_true rfl) (Nat.le_of_ble_eq_true rfl) (Nat.le_of_ble_eq_true rfl) (⟨⟨rfl, hb_nok2 c7⟩, rfl⟩) (Nat.le_of_ble_eq_true rfl) (Nat.le_of_ble_eq_true rfl)

set_option maxHeartbeats 4000000 in
set_option maxRecDepth 100000 in
theorem m_X5_checkWay (l : Launch) (hst : l.stackTraces = false) (Z : hw_Z) (M : hw_M) (k : Int32) : vx_Met l yX5_checkWay (hw_m yX5_checkWay cX5_checkWay 1 none) ({ frames := 6, cells := 1, slots := 6, locals := 82 } : Room) (va_Pc [.int k] (hw_P Z M)) (hw_Qv Z (fun M' => hb_ok k 6 ∧ M = M')) (hw_X Z (fun E M' => (E = "java/lang/IllegalArgumentException" ∧ ¬ hb_ok k 6) ∧ M = M')) 1 6 (hw_A Z) := by
  refine hw_xofv hst (by decide +kernel) rfl (Nat.le_of_ble_eq_true rfl) ?_
  intro p e s m below meth c ls Q hx hb hml hown hts hk hnm hI hl hret hxo hthr hthrW
  refine lv_iload_n hx hb dX5_checkWay_0 rfl (lv_at hl 0 rfl) ?_
  refine lv_if_lt (tgt := 10) hx hb dX5_checkWay_1 (by decide) (fun c1 => ?_) (fun c1 => ?_)
  · exact hthrW hI th_X5_96_388_100 hl.1 dX5_checkWay_10 dX5_checkWay_13 dX5_checkWay_14 dX5_checkWay_17 dX5_checkWay_20 (Nat.le_of_ble_eq_true rfl) (Nat.le_of_ble_eq_true rfl) (Nat.le_of_ble_eq_true rfl) (Nat.le_of_ble_eq_true rfl) (⟨⟨rfl, hb_nok1 c1⟩, rfl⟩) (Nat.le_of_ble_eq_true rfl) (Nat.le_of_ble_eq_true rfl)
  · refine lv_iload_n hx hb dX5_checkWay_4 rfl (lv_at hl 0 rfl) ?_
    refine lv_bipush (v := nI 6) hx hb dX5_checkWay_5 (by decide) ?_
    refine lv_icmp_lt (tgt := 21) hx hb dX5_checkWay_7 (by decide) (fun c7 => ?_) (fun c7 => ?_)
    · exact hret hI (⟨hb_oki c1 c7, rfl⟩) (Nat.le_of_ble_eq_true rfl) (Nat.le_of_ble_eq_true rfl) dX5_checkWay_21
    · exact hthrW hI th_X5_96_388_100 hl.1 dX5_checkWay_10 dX5_checkWay_13 dX5_checkWay_14 dX5_checkWay_17 dX5_checkWay_20 (Nat.le_of_ble_eq_true rfl) (Nat.le_of_ble_eq_true rfl) (Nat.le_of_ble_eq_true rfl) (Nat.le_of_ble_eq_true rfl) (⟨⟨rfl, hb_nok2 c7⟩, rfl⟩) (Nat.le_of_ble_eq_true rfl) (Nat.le_of_ble_eq_true rfl)

set_option maxHeartbeats 4000000 in
set_option maxRecDepth 100000 in
theorem m_X5_checkPower (l : Launch) (hst : l.stackTraces = false) (Z : hw_Z) (M : hw_M) (k : Int32) : vx_Met l yX5_checkPower (hw_m yX5_checkPower cX5_checkPower 1 none) ({ frames := 6, cells := 1, slots := 6, locals := 82 } : Room) (va_Pc [.int k] (hw_P Z M)) (hw_Qv Z (fun M' => hb_pw k ∧ M = M')) (hw_X Z (fun E M' => (E = "java/lang/IllegalArgumentException" ∧ ¬ hb_pw k) ∧ M = M')) 1 6 (hw_A Z) := by
  refine hw_xofv hst (by decide +kernel) rfl (Nat.le_of_ble_eq_true rfl) ?_
  intro p e s m below meth c ls Q hx hb hml hown hts hk hnm hI hl hret hxo hthr hthrW
  refine lv_iload_n hx hb dX5_checkPower_0 rfl (lv_at hl 0 rfl) ?_
  refine lv_bipush (v := nI 50) hx hb dX5_checkPower_1 (by decide) ?_
  refine lv_icmp_lt (tgt := 13) hx hb dX5_checkPower_3 (by decide) (fun c3 => ?_) (fun c3 => ?_)
  · exact hthrW hI th_X5_96_390_100 hl.1 dX5_checkPower_13 dX5_checkPower_16 dX5_checkPower_17 dX5_checkPower_20 dX5_checkPower_23 (Nat.le_of_ble_eq_true rfl) (Nat.le_of_ble_eq_true rfl) (Nat.le_of_ble_eq_true rfl) (Nat.le_of_ble_eq_true rfl) (⟨⟨rfl, fun q => q.1 c3⟩, rfl⟩) (Nat.le_of_ble_eq_true rfl) (Nat.le_of_ble_eq_true rfl)
  · refine lv_iload_n hx hb dX5_checkPower_6 rfl (lv_at hl 0 rfl) ?_
    refine lv_sipush (v := nI 400) hx hb dX5_checkPower_7 (by decide) ?_
    refine lv_icmp_le (tgt := 24) hx hb dX5_checkPower_10 (by decide) (fun c10 => ?_) (fun c10 => ?_)
    · exact hret hI (⟨⟨c3, c10⟩, rfl⟩) (Nat.le_of_ble_eq_true rfl) (Nat.le_of_ble_eq_true rfl) dX5_checkPower_24
    · exact hthrW hI th_X5_96_390_100 hl.1 dX5_checkPower_13 dX5_checkPower_16 dX5_checkPower_17 dX5_checkPower_20 dX5_checkPower_23 (Nat.le_of_ble_eq_true rfl) (Nat.le_of_ble_eq_true rfl) (Nat.le_of_ble_eq_true rfl) (Nat.le_of_ble_eq_true rfl) (⟨⟨rfl, fun q => c10 q.2⟩, rfl⟩) (Nat.le_of_ble_eq_true rfl) (Nat.le_of_ble_eq_true rfl)

set_option maxHeartbeats 4000000 in
set_option maxRecDepth 100000 in
theorem m_X5_checkSolid (l : Launch) (hst : l.stackTraces = false) (Z : hw_Z) (M : hw_M) (a : Nat) (so : Nat) (me : Nat) (v0 : Int32) (v3 : Int32) (v6 : Int32) (v8 : Int32) (v9 : Int32) (v10 : Int32) (v11 : Int32) (v12 : Int32) (cu : UInt64) (dn : Nat) (mv : Value) (h0 : M a = hw_ob 3 [.int v0, .ref so, .ref me, .int v3, .int (nI dn), .double cu, .int v6, mv, .int v8, .int v9, .int v10, .int v11, .int v12]) : vx_Met l yX5_checkSolid (hw_m yX5_checkSolid cX5_checkSolid 1 none) ({ frames := 6, cells := 1, slots := 6, locals := 82 } : Room) (va_Pc [.ref a] (hw_P Z M)) (hw_Qv Z (fun M' => v3 = 0 ∧ M = M')) (hw_X Z (fun E M' => (E = "java/lang/IllegalStateException" ∧ ¬ v3 = 0) ∧ M = M')) 1 6 (hw_A Z) := by
  refine hw_xofv hst (by decide +kernel) rfl (Nat.le_of_ble_eq_true rfl) ?_
  intro p e s m below meth c ls Q hx hb hml hown hts hk hnm hI hl hret hxo hthr hthrW
  refine lv_aload_n hx hb dX5_checkSolid_0 rfl (lv_at hl 0 rfl) ?_
  refine hw_get hx hb hts hown hk hI fd_X5_171 h0 rfl dX5_checkSolid_1 ?_
  refine lv_if_eq (tgt := 18) hx hb dX5_checkSolid_4 (by decide) (fun c4 => ?_) (fun c4 => ?_)
  · exact hret hI (⟨c4, rfl⟩) (Nat.le_of_ble_eq_true rfl) (Nat.le_of_ble_eq_true rfl) dX5_checkSolid_18
  · exact hthrW hI th_X5_50_392_54 hl.1 dX5_checkSolid_7 dX5_checkSolid_10 dX5_checkSolid_11 dX5_checkSolid_14 dX5_checkSolid_17 (Nat.le_of_ble_eq_true rfl) (Nat.le_of_ble_eq_true rfl) (Nat.le_of_ble_eq_true rfl) (Nat.le_of_ble_eq_true rfl) (⟨⟨rfl, c4⟩, rfl⟩) (Nat.le_of_ble_eq_true rfl) (Nat.le_of_ble_eq_true rfl)

set_option maxHeartbeats 4000000 in
set_option maxRecDepth 100000 in
theorem m_X5_checkGrowing_n (l : Launch) (hst : l.stackTraces = false) (Z : hw_Z) (M : hw_M) (a : Nat) (pa : Nat) (z1 : Int32) (z2 : Int32) (z3 : Int32) (z4 : Int32) (pv : Value) (h0 : M a = hw_ob 1 [.int z1, .int z2, pv, .int z3, .null, .ref pa, .int z4]) : vx_Met l yX5_checkGrowing (hw_m yX5_checkGrowing cX5_checkGrowing 2 (some (.object "MeltPool$Piece"))) ({ frames := 6, cells := 1, slots := 6, locals := 82 } : Room) (va_Pc [.ref a] (hw_P Z M)) (hw_Qr Z (fun r M' => False)) (hw_X Z (fun E M' => E = "java/lang/IllegalStateException" ∧ M = M')) 1 6 (hw_A Z) := by
  refine hw_xofr hst (by decide +kernel) rfl (Or.inl ⟨_, rfl⟩) (Nat.le_of_ble_eq_true rfl) ?_
  intro p e s m below meth c ls Q hx hb hml hown hts hk hnm hI hl hret hxo hthr hthrW
  refine lv_aload_n hx hb dX5_checkGrowing_0 rfl (lv_at hl 0 rfl) ?_
  refine hw_get hx hb hts hown hk hI fd_X5_162 h0 rfl dX5_checkGrowing_1 ?_
  refine lv_astore_nN (lv' := [(1, .null), (0, .ref a)]) hx hb dX5_checkGrowing_4 rfl hl (by decide) rfl (fun ls hl => ?_)
  refine lv_aload_nN hx hb dX5_checkGrowing_5 rfl (lv_at hl 0 rfl) ?_
  refine lv_ifnonnullN hx hb dX5_checkGrowing_6 ?_
  exact hthrW hI th_X5_50_396_54 hl.1 dX5_checkGrowing_9 dX5_checkGrowing_12 dX5_checkGrowing_13 dX5_checkGrowing_16 dX5_checkGrowing_19 (Nat.le_of_ble_eq_true rfl) (Nat.le_of_ble_eq_true rfl) (Nat.le_of_ble_eq_true rfl) (Nat.le_of_ble_eq_true rfl) (⟨rfl, rfl⟩) (Nat.le_of_ble_eq_true rfl) (Nat.le_of_ble_eq_true rfl)

set_option maxHeartbeats 4000000 in
set_option maxRecDepth 100000 in
theorem m_X5_checkGrowing_s (l : Launch) (hst : l.stackTraces = false) (Z : hw_Z) (M : hw_M) (a : Nat) (pa : Nat) (g : Nat) (z1 : Int32) (z2 : Int32) (z3 : Int32) (z4 : Int32) (pv : Value) (h0 : M a = hw_ob 1 [.int z1, .int z2, pv, .int z3, .ref g, .ref pa, .int z4]) : vx_Met l yX5_checkGrowing (hw_m yX5_checkGrowing cX5_checkGrowing 2 (some (.object "MeltPool$Piece"))) ({ frames := 6, cells := 1, slots := 6, locals := 82 } : Room) (va_Pc [.ref a] (hw_P Z M)) (hw_Qr Z (fun r M' => g = r ∧ M = M')) (hw_X Z (fun E M' => False)) 1 6 (hw_A Z) := by
  refine hw_xofr hst (by decide +kernel) rfl (Or.inl ⟨_, rfl⟩) (Nat.le_of_ble_eq_true rfl) ?_
  intro p e s m below meth c ls Q hx hb hml hown hts hk hnm hI hl hret hxo hthr hthrW
  refine lv_aload_n hx hb dX5_checkGrowing_0 rfl (lv_at hl 0 rfl) ?_
  refine hw_get hx hb hts hown hk hI fd_X5_162 h0 rfl dX5_checkGrowing_1 ?_
  refine lv_astore_n (lv' := [(1, .ref g), (0, .ref a)]) hx hb dX5_checkGrowing_4 rfl hl (by decide) rfl (fun ls hl => ?_)
  refine lv_aload_n hx hb dX5_checkGrowing_5 rfl (lv_at hl 0 rfl) ?_
  refine lv_ifnonnull (tgt := 20) hx hb dX5_checkGrowing_6 (by decide) ?_
  refine lv_aload_n hx hb dX5_checkGrowing_20 rfl (lv_at hl 0 rfl) ?_
  exact hret hI (⟨rfl, rfl⟩) (Nat.le_of_ble_eq_true rfl) (Nat.le_of_ble_eq_true rfl) dX5_checkGrowing_21
