theorem iw_X6 : ∀ w ∈ u_ws RX6 TX6 6, w ∈ hw_ws := fun w h => hw_win ((by decide +kernel : ∀ w ∈ u_ws RX6 TX6 6, w ∈ lw_tbl) w h) ((by decide +kernel : ∀ w ∈ u_ws RX6 TX6 6, goodWord w = true) w h)
theorem fp_X6_7 : hw_FP RX6 7 7 1 (.array .double) true := ⟨RX6, TX6, 6, "MeltPoolModel$Growth", tyX6, rfl, by decide, iw_X6, (hw_win (w := .fieldLink RX6 7 "MeltPoolModel$Growth" (TX6 1).2.1 (TX6 1).2.2.1) (by decide +kernel) (by decide +kernel)), Or.inl rfl, tyX6_ok, nmX6, rfl, (fun _ => by decide +kernel), by decide +kernel⟩
theorem fp_X6_15 : hw_FP RX6 15 7 0 (.double) true := ⟨RX6, TX6, 6, "MeltPoolModel$Growth", tyX6, rfl, by decide, iw_X6, (hw_win (w := .fieldLink RX6 15 "MeltPoolModel$Growth" (TX6 0).2.1 (TX6 0).2.2.1) (by decide +kernel) (by decide +kernel)), Or.inl rfl, tyX6_ok, nmX6, rfl, (fun _ => by decide +kernel), by decide +kernel⟩
theorem fd_X6_19 : hw_FD RX6 19 11 0 := ⟨RX10, TX10, 1, "MeltPoolModel$Solid", rfl, by decide, iw_X10, (hw_win (w := .fieldLink RX6 19 "MeltPoolModel$Solid" (TX10 0).2.1 (TX10 0).2.2.1) (by decide +kernel) (by decide +kernel)), Or.inl rfl⟩
theorem fd_X6_25 : hw_FD RX6 25 7 5 := ⟨RX6, TX6, 6, "MeltPoolModel$Growth", rfl, by decide, iw_X6, (hw_win (w := .fieldLink RX6 25 "MeltPoolModel$Growth" (TX6 5).2.1 (TX6 5).2.2.1) (by decide +kernel) (by decide +kernel)), Or.inl rfl⟩
theorem cv_X6_29 : hw_CV RX6 29 yX10_hangs cX10_hangs 2 (some .long) 1 := ⟨cb_X10_hangs _ _, (hw_win (w := .methodLink RX6 29 yX10_hangs) (by decide +kernel) (by decide +kernel)), (hw_win (w := .instanceMethod yX10_hangs) (by decide +kernel) (by decide +kernel)), (hw_win (w := .selects yX10_hangs.cls yX10_hangs yX10_hangs) (by decide +kernel) (by decide +kernel))⟩
theorem fd_X6_55 : hw_FD RX6 55 7 2 := ⟨RX6, TX6, 6, "MeltPoolModel$Growth", rfl, by decide, iw_X6, (hw_win (w := .fieldLink RX6 55 "MeltPoolModel$Growth" (TX6 2).2.1 (TX6 2).2.2.1) (by decide +kernel) (by decide +kernel)), Or.inl rfl⟩
theorem cn_X6_62 : hw_CSN RX6 62 yX11_size "MeltPoolModel" cX11_size 4 (some .int) 1 := ⟨cb_X11_size _ _, by decide +kernel, (hw_win (w := .static yX11_size) (by decide +kernel) (by decide +kernel))⟩
theorem fp_X6_55 : hw_FP RX6 55 7 2 (.double) false := ⟨RX6, TX6, 6, "MeltPoolModel$Growth", tyX6, rfl, by decide, iw_X6, (hw_win (w := .fieldLink RX6 55 "MeltPoolModel$Growth" (TX6 2).2.1 (TX6 2).2.2.1) (by decide +kernel) (by decide +kernel)), Or.inl rfl, tyX6_ok, nmX6, rfl, (fun h => by cases h), by decide +kernel⟩
theorem fp_X6_25 : hw_FP RX6 25 7 5 (.int) false := ⟨RX6, TX6, 6, "MeltPoolModel$Growth", tyX6, rfl, by decide, iw_X6, (hw_win (w := .fieldLink RX6 25 "MeltPoolModel$Growth" (TX6 5).2.1 (TX6 5).2.2.1) (by decide +kernel) (by decide +kernel)), Or.inl rfl, tyX6_ok, nmX6, rfl, (fun h => by cases h), by decide +kernel⟩
theorem fd_X6_7 : hw_FD RX6 7 7 1 := ⟨RX6, TX6, 6, "MeltPoolModel$Growth", rfl, by decide, iw_X6, (hw_win (w := .fieldLink RX6 7 "MeltPoolModel$Growth" (TX6 1).2.1 (TX6 1).2.2.1) (by decide +kernel) (by decide +kernel)), Or.inl rfl⟩
theorem cn_X6_35 : hw_CSN RX6 35 yX11_has "MeltPoolModel" cX11_has 3 (some .boolean) 2 := ⟨cb_X11_has _ _, by decide +kernel, (hw_win (w := .static yX11_has) (by decide +kernel) (by decide +kernel))⟩
theorem fd_X6_15 : hw_FD RX6 15 7 0 := ⟨RX6, TX6, 6, "MeltPoolModel$Growth", rfl, by decide, iw_X6, (hw_win (w := .fieldLink RX6 15 "MeltPoolModel$Growth" (TX6 0).2.1 (TX6 0).2.2.1) (by decide +kernel) (by decide +kernel)), Or.inl rfl⟩
theorem fd_X6_45 : hw_FD RX6 45 7 3 := ⟨RX6, TX6, 6, "MeltPoolModel$Growth", rfl, by decide, iw_X6, (hw_win (w := .fieldLink RX6 45 "MeltPoolModel$Growth" (TX6 3).2.1 (TX6 3).2.2.1) (by decide +kernel) (by decide +kernel)), Or.inl rfl⟩
theorem fp_X6_45 : hw_FP RX6 45 7 3 (.int) false := ⟨RX6, TX6, 6, "MeltPoolModel$Growth", tyX6, rfl, by decide, iw_X6, (hw_win (w := .fieldLink RX6 45 "MeltPoolModel$Growth" (TX6 3).2.1 (TX6 3).2.2.1) (by decide +kernel) (by decide +kernel)), Or.inl rfl, tyX6_ok, nmX6, rfl, (fun h => by cases h), by decide +kernel⟩
theorem fd_X6_50 : hw_FD RX6 50 7 4 := ⟨RX6, TX6, 6, "MeltPoolModel$Growth", rfl, by decide, iw_X6, (hw_win (w := .fieldLink RX6 50 "MeltPoolModel$Growth" (TX6 4).2.1 (TX6 4).2.2.1) (by decide +kernel) (by decide +kernel)), Or.inl rfl⟩
theorem fp_X6_50 : hw_FP RX6 50 7 4 (.int) false := ⟨RX6, TX6, 6, "MeltPoolModel$Growth", tyX6, rfl, by decide, iw_X6, (hw_win (w := .fieldLink RX6 50 "MeltPoolModel$Growth" (TX6 4).2.1 (TX6 4).2.2.1) (by decide +kernel) (by decide +kernel)), Or.inl rfl, tyX6_ok, nmX6, rfl, (fun h => by cases h), by decide +kernel⟩
theorem fn_X8_9 : hw_FN RX8 9 11 1 [.null] := ⟨RX10, TX10, tyX10, rfl, iw_X10, tyX10_ok, (hw_win (w := .classLink RX8 9 RX10) (by decide +kernel) (by decide +kernel)), (hw_win (w := .instantiable RX10 1) (by decide +kernel) (by decide +kernel)), (hw_win (w := .initialized RX10) (by decide +kernel) (by decide +kernel)), fun j hj => by rcases (show j = 0 by omega) with rfl <;> rfl⟩
theorem cn_X8_11 : hw_CIN RX8 11 yX10_init "MeltPoolModel" cX10_init 1 0 := ⟨cb_X10_init _ _, by decide +kernel, (hw_win (w := .instanceMethod yX10_init) (by decide +kernel) (by decide +kernel)), rfl⟩
theorem iw_X8 : ∀ w ∈ u_ws RX8 TX8 9, w ∈ hw_ws := fun w h => hw_win ((by decide +kernel : ∀ w ∈ u_ws RX8 TX8 9, w ∈ lw_tbl) w h) ((by decide +kernel : ∀ w ∈ u_ws RX8 TX8 9, goodWord w = true) w h)
theorem fp_X8_12 : hw_FP RX8 12 9 0 (.object "MeltPoolModel$Solid") false := ⟨RX8, TX8, 9, "MeltPoolModel$Piece", tyX8, rfl, by decide, iw_X8, (hw_win (w := .fieldLink RX8 12 "MeltPoolModel$Piece" (TX8 0).2.1 (TX8 0).2.2.1) (by decide +kernel) (by decide +kernel)), Or.inl rfl, tyX8_ok, nmX8, rfl, (fun h => by cases h), by decide +kernel⟩
theorem fp_X8_18 : hw_FP RX8 18 9 1 (.int) false := ⟨RX8, TX8, 9, "MeltPoolModel$Piece", tyX8, rfl, by decide, iw_X8, (hw_win (w := .fieldLink RX8 18 "MeltPoolModel$Piece" (TX8 1).2.1 (TX8 1).2.2.1) (by decide +kernel) (by decide +kernel)), Or.inl rfl, tyX8_ok, nmX8, rfl, (fun h => by cases h), by decide +kernel⟩
theorem fn_X8_22 : hw_FN RX8 22 7 6 [.double 0, .null, .double 0, .int 0, .int 0, .int 0] := ⟨RX6, TX6, tyX6, rfl, iw_X6, tyX6_ok, (hw_win (w := .classLink RX8 22 RX6) (by decide +kernel) (by decide +kernel)), (hw_win (w := .instantiable RX6 6) (by decide +kernel) (by decide +kernel)), (hw_win (w := .initialized RX6) (by decide +kernel) (by decide +kernel)), fun j hj => by rcases (show j = 0 ∨ j = 1 ∨ j = 2 ∨ j = 3 ∨ j = 4 ∨ j = 5 by omega) with rfl | rfl | rfl | rfl | rfl | rfl <;> rfl⟩
theorem cb_X6_init (own : String) (index : Nat) : hw_CB own index yX6_init cX6_init 3 none 2 := ⟨⟨by decide +kernel, by decide +kernel, by decide +kernel⟩, (hw_win (w := .code yX6_init cX6_init 3 none) (by decide +kernel) (by decide +kernel)), (hw_win (w := .initialized yX6_init.cls) (by decide +kernel) (by decide +kernel))⟩
theorem ci_X8_24 : hw_CI RX8 24 yX6_init cX6_init 3 2 := ⟨cb_X6_init _ _, (hw_win (w := .methodLink RX8 24 yX6_init) (by decide +kernel) (by decide +kernel)), (hw_win (w := .instanceMethod yX6_init) (by decide +kernel) (by decide +kernel)), rfl⟩
theorem fp_X8_27 : hw_FP RX8 27 9 2 (.object "MeltPoolModel$Growth") false := ⟨RX8, TX8, 9, "MeltPoolModel$Piece", tyX8, rfl, by decide, iw_X8, (hw_win (w := .fieldLink RX8 27 "MeltPoolModel$Piece" (TX8 2).2.1 (TX8 2).2.2.1) (by decide +kernel) (by decide +kernel)), Or.inl rfl, tyX8_ok, nmX8, rfl, (fun h => by cases h), by decide +kernel⟩
theorem fp_X8_31 : hw_FP RX8 31 9 4 (.int) false := ⟨RX8, TX8, 9, "MeltPoolModel$Piece", tyX8, rfl, by decide, iw_X8, (hw_win (w := .fieldLink RX8 31 "MeltPoolModel$Piece" (TX8 4).2.1 (TX8 4).2.2.1) (by decide +kernel) (by decide +kernel)), Or.inl rfl, tyX8_ok, nmX8, rfl, (fun h => by cases h), by decide +kernel⟩
theorem fp_X8_34 : hw_FP RX8 34 9 5 (.int) false := ⟨RX8, TX8, 9, "MeltPoolModel$Piece", tyX8, rfl, by decide, iw_X8, (hw_win (w := .fieldLink RX8 34 "MeltPoolModel$Piece" (TX8 5).2.1 (TX8 5).2.2.1) (by decide +kernel) (by decide +kernel)), Or.inl rfl, tyX8_ok, nmX8, rfl, (fun h => by cases h), by decide +kernel⟩
theorem fp_X8_37 : hw_FP RX8 37 9 6 (.int) false := ⟨RX8, TX8, 9, "MeltPoolModel$Piece", tyX8, rfl, by decide, iw_X8, (hw_win (w := .fieldLink RX8 37 "MeltPoolModel$Piece" (TX8 6).2.1 (TX8 6).2.2.1) (by decide +kernel) (by decide +kernel)), Or.inl rfl, tyX8_ok, nmX8, rfl, (fun h => by cases h), by decide +kernel⟩
theorem fp_X8_40 : hw_FP RX8 40 9 7 (.int) false := ⟨RX8, TX8, 9, "MeltPoolModel$Piece", tyX8, rfl, by decide, iw_X8, (hw_win (w := .fieldLink RX8 40 "MeltPoolModel$Piece" (TX8 7).2.1 (TX8 7).2.2.1) (by decide +kernel) (by decide +kernel)), Or.inl rfl, tyX8_ok, nmX8, rfl, (fun h => by cases h), by decide +kernel⟩
theorem fp_X8_43 : hw_FP RX8 43 9 8 (.int) false := ⟨RX8, TX8, 9, "MeltPoolModel$Piece", tyX8, rfl, by decide, iw_X8, (hw_win (w := .fieldLink RX8 43 "MeltPoolModel$Piece" (TX8 8).2.1 (TX8 8).2.2.1) (by decide +kernel) (by decide +kernel)), Or.inl rfl, tyX8_ok, nmX8, rfl, (fun h => by cases h), by decide +kernel⟩
theorem iw_X9 : ∀ w ∈ u_ws RX9 TX9 5, w ∈ hw_ws := fun w h => hw_win ((by decide +kernel : ∀ w ∈ u_ws RX9 TX9 5, w ∈ lw_tbl) w h) ((by decide +kernel : ∀ w ∈ u_ws RX9 TX9 5, goodWord w = true) w h)
theorem fp_X9_9 : hw_FP RX9 9 10 4 (.int) false := ⟨RX9, TX9, 5, "MeltPoolModel$Powder", tyX9, rfl, by decide, iw_X9, (hw_win (w := .fieldLink RX9 9 "MeltPoolModel$Powder" (TX9 4).2.1 (TX9 4).2.2.1) (by decide +kernel) (by decide +kernel)), Or.inl rfl, tyX9_ok, nmX9, rfl, (fun h => by cases h), by decide +kernel⟩
theorem fp_X9_15 : hw_FP RX9 15 10 0 (.int) true := ⟨RX9, TX9, 5, "MeltPoolModel$Powder", tyX9, rfl, by decide, iw_X9, (hw_win (w := .fieldLink RX9 15 "MeltPoolModel$Powder" (TX9 0).2.1 (TX9 0).2.2.1) (by decide +kernel) (by decide +kernel)), Or.inl rfl, tyX9_ok, nmX9, rfl, (fun _ => by decide +kernel), by decide +kernel⟩
theorem fp_X9_18 : hw_FP RX9 18 10 1 (.int) false := ⟨RX9, TX9, 5, "MeltPoolModel$Powder", tyX9, rfl, by decide, iw_X9, (hw_win (w := .fieldLink RX9 18 "MeltPoolModel$Powder" (TX9 1).2.1 (TX9 1).2.2.1) (by decide +kernel) (by decide +kernel)), Or.inl rfl, tyX9_ok, nmX9, rfl, (fun h => by cases h), by decide +kernel⟩
theorem fp_X9_21 : hw_FP RX9 21 10 3 (.int) false := ⟨RX9, TX9, 5, "MeltPoolModel$Powder", tyX9, rfl, by decide, iw_X9, (hw_win (w := .fieldLink RX9 21 "MeltPoolModel$Powder" (TX9 3).2.1 (TX9 3).2.2.1) (by decide +kernel) (by decide +kernel)), Or.inl rfl, tyX9_ok, nmX9, rfl, (fun h => by cases h), by decide +kernel⟩
theorem fd_X8_12 : hw_FD RX8 12 9 0 := ⟨RX8, TX8, 9, "MeltPoolModel$Piece", rfl, by decide, iw_X8, (hw_win (w := .fieldLink RX8 12 "MeltPoolModel$Piece" (TX8 0).2.1 (TX8 0).2.2.1) (by decide +kernel) (by decide +kernel)), Or.inl rfl⟩
theorem cb_X10_cells (own : String) (index : Nat) : hw_CB own index yX10_cells cX10_cells 7 (some .int) 0 := ⟨⟨by decide +kernel, by decide +kernel, by decide +kernel⟩, (hw_win (w := .code yX10_cells cX10_cells 7 (some .int)) (by decide +kernel) (by decide +kernel)), (hw_win (w := .initialized yX10_cells.cls) (by decide +kernel) (by decide +kernel))⟩
theorem cv_X8_46 : hw_CV RX8 46 yX10_cells cX10_cells 7 (some .int) 0 := ⟨cb_X10_cells _ _, (hw_win (w := .methodLink RX8 46 yX10_cells) (by decide +kernel) (by decide +kernel)), (hw_win (w := .instanceMethod yX10_cells) (by decide +kernel) (by decide +kernel)), (hw_win (w := .selects yX10_cells.cls yX10_cells yX10_cells) (by decide +kernel) (by decide +kernel))⟩
theorem fd_X8_27 : hw_FD RX8 27 9 2 := ⟨RX8, TX8, 9, "MeltPoolModel$Piece", rfl, by decide, iw_X8, (hw_win (w := .fieldLink RX8 27 "MeltPoolModel$Piece" (TX8 2).2.1 (TX8 2).2.2.1) (by decide +kernel) (by decide +kernel)), Or.inl rfl⟩
theorem fd_X8_50 : hw_FD RX8 50 7 3 := ⟨RX6, TX6, 6, "MeltPoolModel$Growth", rfl, by decide, iw_X6, (hw_win (w := .fieldLink RX8 50 "MeltPoolModel$Growth" (TX6 3).2.1 (TX6 3).2.2.1) (by decide +kernel) (by decide +kernel)), Or.inl rfl⟩
theorem fd_X8_53 : hw_FD RX8 53 7 4 := ⟨RX6, TX6, 6, "MeltPoolModel$Growth", rfl, by decide, iw_X6, (hw_win (w := .fieldLink RX8 53 "MeltPoolModel$Growth" (TX6 4).2.1 (TX6 4).2.2.1) (by decide +kernel) (by decide +kernel)), Or.inl rfl⟩
set_option maxHeartbeats 4000000 in
set_option maxRecDepth 100000 in
theorem m_X6_init (l : Launch) (Z : hw_Z) (M : hw_M) (a : Nat) (p1 : Int32) (s1 : Int32) (h0 : M a = hw_ob 7 [.double 0, .null, .double 0, .int 0, .int 0, .int 0]) (hp1 : 0 ≤ p1) (hs1 : 0 < s1) : Met l yX6_init (hw_m yX6_init cX6_init 3 none) ({ frames := 1, cells := 1, slots := 64, locals := 12 } : Room) (va_Pc [.ref a, .int p1, .int s1] (hw_P Z M)) (hw_Qv Z (fun M' => ∃ (wa : Nat), (M wa = none) ∧ (True) ∧ (M' wa = hw_ad Z 64 (fun _ => 0)) ∧ M' a = hw_ob 7 [.double (hb_en p1 s1), .ref wa, .double 0, .int 0, .int 0, .int 0] ∧ ∀ x, M x ≠ none → x ≠ a → M' x = M x)) 1 64 (hw_A Z) := by
  refine hw_ofv (by decide +kernel) rfl (Nat.le_of_ble_eq_true rfl) ?_
  intro p e s m below meth c ls Q hx hb hml hown hts hk hnm hI hl hret
  refine lv_aload_n hx hb dX6_init_0 rfl (lv_at hl 0 rfl) ?_
  refine W.objInit hx hb hown (hts _ (hw_win (w := .methodLink RX6 1 objectInit) (by decide +kernel) (by decide +kernel))) (hts _ (hw_win (w := .instanceMethod objectInit) (by decide +kernel) (by decide +kernel))) (hts _ (hw_win (w := .code objectInit ⟨#[0xb1]⟩ 1 none) (by decide +kernel) (by decide +kernel))) rfl (by rw [hml]; exact hl.1) rfl dX6_init_1 (Nat.le_of_ble_eq_true rfl) (Nat.le_of_ble_eq_true rfl) ?_
  refine W.eq (g2 := F0 m 4 ls []) rfl ?_
  refine lv_aload_n hx hb dX6_init_4 rfl (lv_at hl 0 rfl) ?_
  refine lv_bipush (v := nI 64) hx hb dX6_init_5 (by decide) ?_
  refine hw_newa (a0 := (64, .inr (.inr (.inr (.inl (fun _ => 0)))))) hx hb hts hk hI (atype := .double) (hw_win (w := .arrayClass .double) (by decide +kernel) (by decide +kernel)) rfl 2 rfl (fun _ h => by cases h) (fun _ => rfl) rfl (by decide) (by decide) (Nat.le_of_ble_eq_true rfl) (Nat.le_of_ble_eq_true rfl) dX6_init_7 (fun q7 H hq7 hI => ?_)
  have b_q7 : M q7 = none := hw_alv.n (hw_alv_r M) hq7
  refine hw_putF (fs' := [.double 0, .ref q7, .double 0, .int 0, .int 0, .int 0]) hx hb hts hown hnm hk hI fp_X6_7 (hw_up h0 (hw_nn h0 hq7)) (Nat.le_of_ble_eq_true rfl) rfl rfl rfl dX6_init_9 (fun H locs hI => ?_)
  refine lv_aload_n hx hb dX6_init_12 rfl (lv_at hl 0 rfl) ?_
  refine lv_iload_n hx hb dX6_init_13 rfl (lv_at hl 1 rfl) ?_
  refine lv_i2d hx hb dX6_init_14 ?_
  refine lv_iload_n hx hb dX6_init_15 rfl (lv_at hl 2 rfl) ?_
  refine lv_i2d hx hb dX6_init_16 ?_
  refine lv_ddiv hx hb dX6_init_17 (hf_n (hf_div (hf_i2d hp1) (hf_i2dp hs1))) ?_
  refine lv_ldc2d (v := 4621819117588971520) hx hb hown (hts _ (hw_win (w := .constantDouble RX6 13 4621819117588971520) (by decide +kernel) (by decide +kernel))) dX6_init_18 ?_
  refine lv_ddiv hx hb dX6_init_21 (hf_n (hb_en_pz hp1 hs1)) ?_
  refine hw_putF (fs' := [.double (FP.ddiv (FP.ddiv (FP.i2d p1) (FP.i2d s1)) 4621819117588971520), .ref q7, .double 0, .int 0, .int 0, .int 0]) hx hb hts hown hnm hk hI fp_X6_15 (hw_us _ _ _) (Nat.le_of_ble_eq_true rfl) rfl rfl rfl dX6_init_22 (fun H locs hI => ?_)
  have hfin : (fun M' => ∃ (wa : Nat), (M wa = none) ∧ (True) ∧ (M' wa = hw_ad Z 64 (fun _ => 0)) ∧ M' a = hw_ob 7 [.double (hb_en p1 s1), .ref wa, .double 0, .int 0, .int 0, .int 0] ∧ ∀ x, M x ≠ none → x ≠ a → M' x = M x) (va_up (va_up (va_up M q7 (hw_ad Z 64 (fun _ => 0))) a (hw_ob 7 [.double 0, .ref q7, .double 0, .int 0, .int 0, .int 0])) a (hw_ob 7 [.double (FP.ddiv (FP.ddiv (FP.i2d p1) (FP.i2d s1)) 4621819117588971520), .ref q7, .double 0, .int 0, .int 0, .int 0])) := ⟨q7, b_q7, trivial, hw_up (hw_up (hw_us _ _ _) (Ne.symm (hw_nn h0 hq7))) (Ne.symm (hw_nn h0 hq7)), hw_us _ _ _, fun x hx hxa => by rw [va_up_ne _ _ hxa, va_up_ne _ _ hxa, va_up_ne _ _ (hw_xn hx b_q7)]⟩
  exact hret hI hfin (Nat.le_of_ble_eq_true rfl) (Nat.le_of_ble_eq_true rfl) dX6_init_25

set_option maxHeartbeats 4000000 in
set_option maxRecDepth 100000 in
theorem m_X6_grow (l : Launch) (Z : hw_Z) (M : hw_M) (a : Nat) (so : Nat) (ca : Nat) (wa : Nat) (dn : Nat) (en : UInt64) (cu : UInt64) (lk : Int32) (ho : Int32) (C : Nat → Int64) (Wm : Nat → UInt64) (h0 : M a = hw_ob 7 [.double en, .ref wa, .double cu, .int lk, .int ho, .int (nI dn)]) (h1 : M so = hw_ob 11 [.ref ca]) (h2 : M ca = hw_al Z 8 C) (h3 : M wa = hw_ad Z 64 Wm) (n0 : a ≠ wa) (hd8 : dn < 8) (hW : ∀ p, hb_pz (Wm p)) (hen : hb_pz en) (hcu : hb_pz cu) : Met l yX6_grow (hw_m yX6_grow cX6_grow 9 none) ({ frames := 3, cells := 0, slots := 0, locals := 90 } : Room) (va_Pc [.ref a, .ref so] (hw_P Z M)) (hw_Qv Z (fun M' => va_up (va_up M wa (hw_ad Z 64 (hb_wf (C dn) en Wm))) a (hw_ob 7 [.double en, .ref wa, .double (hb_cu cu (hb_pc (hb_hang C dn))), .int (lk + nI (hb_ct (hb_lp (C dn) (hb_hang C dn) en Wm) 64)), .int (ho + nI (hb_ct (hb_hp (C dn) (hb_hang C dn) en Wm) 64)), .int (nI (dn + 1))]) = M')) 0 0 (hw_A Z) := by
  refine hw_ofv (by decide +kernel) rfl (Nat.le_of_ble_eq_true rfl) ?_
  intro p e s m below meth c ls Q hx hb hml hown hts hk hnm hI hl hret
  refine lv_aload_n hx hb dX6_grow_0 rfl (lv_at hl 1 rfl) ?_
  refine hw_get hx hb hts hown hk hI fd_X6_19 h1 rfl dX6_grow_1 ?_
  refine lv_aload_n hx hb dX6_grow_4 rfl (lv_at hl 0 rfl) ?_
  refine hw_get hx hb hts hown hk hI fd_X6_25 h0 rfl dX6_grow_5 ?_
  refine hw_lald hx hb hk hI h2 (j := dn) rfl (by omega) (by decide) dX6_grow_8 ?_
  refine lv_lstore_n (lv' := [(2, .long (C dn)), (0, .ref a), (1, .ref so)]) hx hb dX6_grow_9 rfl hl (by decide) rfl (fun ls hl => ?_)
  refine lv_aload_n hx hb dX6_grow_10 rfl (lv_at hl 2 rfl) ?_
  refine lv_aload_n hx hb dX6_grow_11 rfl (lv_at hl 1 rfl) ?_
  refine hw_get hx hb hts hown hk hI fd_X6_25 h0 rfl dX6_grow_12 ?_
  refine hw_cl' hI (hw_rV hx hb hml hown hts hk hI (m_X10_hangs l Z M so ca C dn h1 h2 (by omega)) cv_X6_29 h1 rfl rfl ⟨rfl, rfl⟩ ⟨(Nat.le_of_ble_eq_true rfl), (Nat.le_of_ble_eq_true rfl)⟩ rfl hl.1 rfl (Nat.le_of_ble_eq_true rfl) ⟨(Nat.le_of_ble_eq_true rfl), (Nat.le_of_ble_eq_true rfl)⟩ dX6_grow_15) (fun r15 M15 H locs hR hI => ?_)
  obtain ⟨rfl, rfl⟩ := hR
  refine lv_lstore (lv' := [(4, .long (hb_hang C dn)), (2, .long (C dn)), (0, .ref a), (1, .ref so)]) hx hb dX6_grow_18 hl (by decide) rfl (fun ls hl => ?_)
  refine lv_iconst (v := nI 0) hx hb dX6_grow_20 (by decide) ?_
  refine lv_istore (lv' := [(6, .int (nI 0)), (4, .long (hb_hang C dn)), (2, .long (C dn)), (0, .ref a), (1, .ref so)]) hx hb dX6_grow_21 hl (by decide) rfl (fun ls hl => ?_)
  suffices LP23 : ∀ i, i ≤ 64 → ∀ (H : Heap) (locs : List Loc) (ls : Array Slot), hw_iv Z s (va_up (va_up M a (hw_ob 7 [.double en, .ref wa, .double cu, .int (lk + nI (hb_ct (hb_lp (C dn) (hb_hang C dn) en Wm) i)), .int (ho + nI (hb_ct (hb_hp (C dn) (hb_hang C dn) en Wm) i)), .int (nI dn)])) wa (hw_ad Z 64 (hb_mix (hb_wf (C dn) en Wm) Wm i))) H locs → lv_has ls 9 [(6, .int (nI i)), (2, .long (C dn)), (4, .long (hb_hang C dn)), (0, .ref a), (1, .ref so)] → W p l e ({ frames := 3, cells := 0, slots := 0, locals := 90 } : Room) s m ([.ref a, .ref so] : List Value).toArray below meth c H locs 0 0 Q (F0 m 23 ls []) from LP23 0 (by omega) _ _ _ (hI.eq (hb_gr0 h0 h3)) (lv_sub hl [0, 2, 1, 3, 4] rfl)
  refine hw_loop ?_ (fun i hi23 ih23 => ?_)
  · intro H locs ls hI hl
    refine lv_iload hx hb dX6_grow_23 (lv_at hl 0 rfl) ?_
    refine lv_bipush (v := nI 64) hx hb dX6_grow_25 (by decide) ?_
    refine lv_icmp_ge (tgt := 157) hx hb dX6_grow_27 (by decide) (fun _ => ?_) (fun hc => absurd (Int32.le_refl _) hc)
    replace hI := (hI.exd (a := wa) (hb_wf (C dn) en Wm) (hw_us _ _ _) (fun j hj => hb_mix_lt hj)).eq hb_up2
    refine lv_aload_n hx hb dX6_grow_157 rfl (lv_at hl 3 rfl) ?_
    refine lv_aload_n hx hb dX6_grow_158 rfl (lv_at hl 3 rfl) ?_
    refine hw_get hx hb hts hown hk hI fd_X6_55 (hw_up (hw_us _ _ _) n0) rfl dX6_grow_159 ?_
    refine lv_ldc2d (v := 4604930618986332160) hx hb hown (hts _ (hw_win (w := .constantDouble RX6 58 4604930618986332160) (by decide +kernel) (by decide +kernel))) dX6_grow_162 ?_
    refine lv_dmul hx hb dX6_grow_165 (hf_n (hf_mul hcu hf_34)) ?_
    refine lv_ldc2d (v := 4593671619917905920) hx hb hown (hts _ (hw_win (w := .constantDouble RX6 60 4593671619917905920) (by decide +kernel) (by decide +kernel))) dX6_grow_166 ?_
    refine lv_lload hx hb dX6_grow_169 (lv_at hl 2 rfl) ?_
    refine hw_ci hI (hw_rSN hx hb hml hown hts hk hI (m_X11_size l Z (va_up (va_up M a (hw_ob 7 [.double en, .ref wa, .double cu, .int (lk + nI (hb_ct (hb_lp (C dn) (hb_hang C dn) en Wm) 64)), .int (ho + nI (hb_ct (hb_hp (C dn) (hb_hang C dn) en Wm) 64)), .int (nI dn)])) wa (hw_ad Z 64 (hb_wf (C dn) en Wm))) (hb_hang C dn)) cn_X6_62 ⟨rfl, rfl⟩ ⟨(Nat.le_of_ble_eq_true rfl), (Nat.le_of_ble_eq_true rfl)⟩ rfl hl.1 rfl (Nat.le_of_ble_eq_true rfl) ⟨(Nat.le_of_ble_eq_true rfl), (Nat.le_of_ble_eq_true rfl)⟩ dX6_grow_171) (fun r171 M171 H locs hR hI => ?_)
    obtain ⟨rfl, rfl⟩ := hR
    refine lv_i2d hx hb dX6_grow_174 ?_
    refine lv_dmul hx hb dX6_grow_175 (hf_n (hf_mulc hf_18 (hf_i2d (nI_pos' (by have := hb_pc_le (hb_hang C dn); omega))))) ?_
    refine lv_dadd hx hb dX6_grow_176 (hf_n (hb_cu_pz hcu (by have := hb_pc_le (hb_hang C dn); omega))) ?_
    refine hw_put (fs' := [.double en, .ref wa, .double (FP.dadd (FP.dmul cu 4604930618986332160) (FP.dmul 4593671619917905920 (FP.i2d (nI (hb_pc (hb_hang C dn)))))), .int (lk + nI (hb_ct (hb_lp (C dn) (hb_hang C dn) en Wm) 64)), .int (ho + nI (hb_ct (hb_hp (C dn) (hb_hang C dn) en Wm) 64)), .int (nI dn)]) hx hb hts hown hk hI fp_X6_55 (hw_up (hw_us _ _ _) n0) (Nat.le_of_ble_eq_true rfl) rfl rfl rfl dX6_grow_177 (fun H locs hI => ?_)
    refine lv_aload_n hx hb dX6_grow_180 rfl (lv_at hl 3 rfl) ?_
    refine lv_dup hx hb dX6_grow_181 rfl ?_
    refine hw_get hx hb hts hown hk hI fd_X6_25 (hw_us _ _ _) rfl dX6_grow_182 ?_
    refine lv_iconst (v := nI 1) hx hb dX6_grow_185 (by decide) ?_
    refine lv_iadd hx hb dX6_grow_186 ?_
    refine hw_ti (nI_add _ _) ?_
    refine hw_put (fs' := [.double en, .ref wa, .double (FP.dadd (FP.dmul cu 4604930618986332160) (FP.dmul 4593671619917905920 (FP.i2d (nI (hb_pc (hb_hang C dn)))))), .int (lk + nI (hb_ct (hb_lp (C dn) (hb_hang C dn) en Wm) 64)), .int (ho + nI (hb_ct (hb_hp (C dn) (hb_hang C dn) en Wm) 64)), .int (nI (dn + 1))]) hx hb hts hown hk hI fp_X6_25 (hw_us _ _ _) (Nat.le_of_ble_eq_true rfl) rfl rfl rfl dX6_grow_187 (fun H locs hI => ?_)
    exact hret hI (by rw [bx_uu, hb_g3 n0]; rfl) (Nat.le_of_ble_eq_true rfl) (Nat.le_of_ble_eq_true rfl) dX6_grow_190
  · intro H locs ls hI hl
    refine lv_iload hx hb dX6_grow_23 (lv_at hl 0 rfl) ?_
    refine lv_bipush (v := nI 64) hx hb dX6_grow_25 (by decide) ?_
    refine lv_icmp_ge (tgt := 157) hx hb dX6_grow_27 (by decide) (fun hc => absurd hc (nI_ge hi23 (by decide))) (fun _ => ?_)
    refine lv_aload_n hx hb dX6_grow_30 rfl (lv_at hl 3 rfl) ?_
    refine hw_get hx hb hts hown hk hI fd_X6_7 (hw_up (hw_us _ _ _) n0) rfl dX6_grow_31 ?_
    refine lv_iload hx hb dX6_grow_34 (lv_at hl 0 rfl) ?_
    refine lv_dup2_11 hx hb dX6_grow_36 rfl rfl ?_
    refine hw_dald hx hb hk hI (hw_us _ _ _) (j := i) rfl (by omega) (by decide) dX6_grow_37 ?_
    refine hw_td (hb_mix_ge (Nat.le_refl _)) ?_
    refine lv_ldc2d (v := 4602678819172646912) hx hb hown (hts _ (hw_win (w := .constantDouble RX6 33 4602678819172646912) (by decide +kernel) (by decide +kernel))) dX6_grow_38 ?_
    refine lv_dmul hx hb dX6_grow_41 (hf_n (hf_mul (hW i) hf_half)) ?_
    refine hw_dast hx hb hk hI (hw_us _ _ _) (j := i) rfl (by omega) (by decide) dX6_grow_42 (fun H locs hI => ?_)
    refine lv_lload_n hx hb dX6_grow_43 rfl (lv_at hl 1 rfl) ?_
    refine lv_iload hx hb dX6_grow_44 (lv_at hl 0 rfl) ?_
    refine hw_ci hI (hw_rSN hx hb hml hown hts hk hI (m_X11_has l Z (va_up (va_up (va_up M a (hw_ob 7 [.double en, .ref wa, .double cu, .int (lk + nI (hb_ct (hb_lp (C dn) (hb_hang C dn) en Wm) i)), .int (ho + nI (hb_ct (hb_hp (C dn) (hb_hang C dn) en Wm) i)), .int (nI dn)])) wa (hw_ad Z 64 (hb_mix (hb_wf (C dn) en Wm) Wm i))) wa (hw_ad Z 64 (va_up (hb_mix (hb_wf (C dn) en Wm) Wm i) i (FP.dmul (Wm i) 4602678819172646912)))) (C dn) i (by omega)) cn_X6_35 ⟨rfl, rfl⟩ ⟨(Nat.le_of_ble_eq_true rfl), (Nat.le_of_ble_eq_true rfl)⟩ rfl hl.1 rfl (Nat.le_of_ble_eq_true rfl) ⟨(Nat.le_of_ble_eq_true rfl), (Nat.le_of_ble_eq_true rfl)⟩ dX6_grow_46) (fun r46 M46 H locs hR hI => ?_)
    obtain ⟨rfl, rfl⟩ := hR
    refine lv_if_ne (tgt := 55) hx hb dX6_grow_49 (by decide) (fun c49 => ?_) (fun c49 => ?_)
    · refine lv_aload_n hx hb dX6_grow_55 rfl (lv_at hl 3 rfl) ?_
      refine hw_get hx hb hts hown hk hI fd_X6_7 (hw_up (hw_up (hw_us _ _ _) n0) n0) rfl dX6_grow_56 ?_
      refine lv_iload hx hb dX6_grow_59 (lv_at hl 0 rfl) ?_
      refine lv_dup2_11 hx hb dX6_grow_61 rfl rfl ?_
      refine hw_dald hx hb hk hI (hw_us _ _ _) (j := i) rfl (by omega) (by decide) dX6_grow_62 ?_
      refine hw_td (va_up_self _ _ _) ?_
      refine lv_aload_n hx hb dX6_grow_63 rfl (lv_at hl 3 rfl) ?_
      refine hw_get hx hb hts hown hk hI fd_X6_15 (hw_up (hw_up (hw_us _ _ _) n0) n0) rfl dX6_grow_64 ?_
      refine lv_ldc2d (v := 4598175219545276416) hx hb hown (hts _ (hw_win (w := .constantDouble RX6 41 4598175219545276416) (by decide +kernel) (by decide +kernel))) dX6_grow_67 ?_
      refine lv_dmul hx hb dX6_grow_70 (hf_n (hf_mul hen hf_quarter)) ?_
      refine lv_dadd hx hb dX6_grow_71 (hf_n (hf_add (hf_mul (hW i) hf_half) (hf_mul hen hf_quarter))) ?_
      refine hw_dast hx hb hk hI (hw_us _ _ _) (j := i) rfl (by omega) (by decide) dX6_grow_72 (fun H locs hI => ?_)
      refine lv_aload_n hx hb dX6_grow_73 rfl (lv_at hl 3 rfl) ?_
      refine hw_get hx hb hts hown hk hI fd_X6_15 (hw_up (hw_up (hw_up (hw_us _ _ _) n0) n0) n0) rfl dX6_grow_74 ?_
      refine lv_aload_n hx hb dX6_grow_77 rfl (lv_at hl 3 rfl) ?_
      refine hw_get hx hb hts hown hk hI fd_X6_7 (hw_up (hw_up (hw_up (hw_us _ _ _) n0) n0) n0) rfl dX6_grow_78 ?_
      refine lv_iload hx hb dX6_grow_81 (lv_at hl 0 rfl) ?_
      refine hw_dald hx hb hk hI (hw_us _ _ _) (j := i) rfl (by omega) (by decide) dX6_grow_83 ?_
      refine hw_td (va_up_self _ _ _) ?_
      refine lv_dadd hx hb dX6_grow_84 (hf_n (hf_add hen (hf_add (hf_mul (hW i) hf_half) (hf_mul hen hf_quarter)))) ?_
      refine lv_dstore (lv' := [(7, .double (FP.dadd en (FP.dadd (FP.dmul (Wm i) 4602678819172646912) (FP.dmul en 4598175219545276416)))), (6, .int (nI i)), (2, .long (C dn)), (4, .long (hb_hang C dn)), (0, .ref a), (1, .ref so)]) hx hb dX6_grow_85 hl (by decide) rfl (fun ls hl => ?_)
      refine lv_lload hx hb dX6_grow_87 (lv_at hl 3 rfl) ?_
      refine lv_iload hx hb dX6_grow_89 (lv_at hl 1 rfl) ?_
      refine hw_ci hI (hw_rSN hx hb hml hown hts hk hI (m_X11_has l Z (va_up (va_up (va_up (va_up M a (hw_ob 7 [.double en, .ref wa, .double cu, .int (lk + nI (hb_ct (hb_lp (C dn) (hb_hang C dn) en Wm) i)), .int (ho + nI (hb_ct (hb_hp (C dn) (hb_hang C dn) en Wm) i)), .int (nI dn)])) wa (hw_ad Z 64 (hb_mix (hb_wf (C dn) en Wm) Wm i))) wa (hw_ad Z 64 (va_up (hb_mix (hb_wf (C dn) en Wm) Wm i) i (FP.dmul (Wm i) 4602678819172646912)))) wa (hw_ad Z 64 (va_up (va_up (hb_mix (hb_wf (C dn) en Wm) Wm i) i (FP.dmul (Wm i) 4602678819172646912)) i (FP.dadd (FP.dmul (Wm i) 4602678819172646912) (FP.dmul en 4598175219545276416))))) (hb_hang C dn) i (by omega)) cn_X6_35 ⟨rfl, rfl⟩ ⟨(Nat.le_of_ble_eq_true rfl), (Nat.le_of_ble_eq_true rfl)⟩ rfl hl.1 rfl (Nat.le_of_ble_eq_true rfl) ⟨(Nat.le_of_ble_eq_true rfl), (Nat.le_of_ble_eq_true rfl)⟩ dX6_grow_91) (fun r91 M91 H locs hR hI => ?_)
      obtain ⟨rfl, rfl⟩ := hR
      refine lv_if_eq (tgt := 105) hx hb dX6_grow_94 (by decide) (fun c94 => ?_) (fun c94 => ?_)
      · refine lv_aload_n hx hb dX6_grow_105 rfl (lv_at hl 4 rfl) ?_
        refine lv_dup hx hb dX6_grow_106 rfl ?_
        refine hw_get hx hb hts hown hk hI fd_X6_45 (hw_up (hw_up (hw_up (hw_us _ _ _) n0) n0) n0) rfl dX6_grow_107 ?_
        refine lv_dload hx hb dX6_grow_110 (lv_at hl 0 rfl) ?_
        refine lv_ldc2d (v := 4611686018427387904) hx hb hown (hts _ (hw_win (w := .constantDouble RX6 48 4611686018427387904) (by decide +kernel) (by decide +kernel))) dX6_grow_112 ?_
        refine lv_dcmp hx hb dX6_grow_115 ?_
        refine lv_if_ge (tgt := 123) hx hb dX6_grow_116 (by decide) (fun c116 => ?_) (fun c116 => ?_)
        · refine lv_iconst (v := nI 0) hx hb dX6_grow_123 (by decide) ?_
          refine lv_iadd hx hb dX6_grow_124 ?_
          refine hw_put (fs' := [.double en, .ref wa, .double cu, .int ((lk + nI (hb_ct (hb_lp (C dn) (hb_hang C dn) en Wm) i)) + (nI 0)), .int (ho + nI (hb_ct (hb_hp (C dn) (hb_hang C dn) en Wm) i)), .int (nI dn)]) hx hb hts hown hk hI fp_X6_45 (hw_up (hw_up (hw_up (hw_us _ _ _) n0) n0) n0) (Nat.le_of_ble_eq_true rfl) rfl rfl rfl dX6_grow_125 (fun H locs hI => ?_)
          refine lv_aload_n hx hb dX6_grow_128 rfl (lv_at hl 4 rfl) ?_
          refine lv_dup hx hb dX6_grow_129 rfl ?_
          refine hw_get hx hb hts hown hk hI fd_X6_50 (hw_us _ _ _) rfl dX6_grow_130 ?_
          refine lv_dload hx hb dX6_grow_133 (lv_at hl 0 rfl) ?_
          refine lv_ldc2d (v := 4618441417868443648) hx hb hown (hts _ (hw_win (w := .constantDouble RX6 53 4618441417868443648) (by decide +kernel) (by decide +kernel))) dX6_grow_135 ?_
          refine lv_dcmp hx hb dX6_grow_138 ?_
          refine lv_if_le (tgt := 146) hx hb dX6_grow_139 (by decide) (fun c139 => ?_) (fun c139 => ?_)
          · refine lv_iconst (v := nI 0) hx hb dX6_grow_146 (by decide) ?_
            refine lv_iadd hx hb dX6_grow_147 ?_
            refine hw_put (fs' := [.double en, .ref wa, .double cu, .int ((lk + nI (hb_ct (hb_lp (C dn) (hb_hang C dn) en Wm) i)) + (nI 0)), .int ((ho + nI (hb_ct (hb_hp (C dn) (hb_hang C dn) en Wm) i)) + (nI 0)), .int (nI dn)]) hx hb hts hown hk hI fp_X6_50 (hw_us _ _ _) (Nat.le_of_ble_eq_true rfl) rfl rfl rfl dX6_grow_148 (fun H locs hI => ?_)
            have hbc := hq_bt c49
            have hw := hb_wf_t (e := en) (W := Wm) hbc
            have hbg : hb_bit (hb_hang C dn) i = false := hq_bf c94
            have hlp : hb_lp (C dn) (hb_hang C dn) en Wm i = false := hb_lp_v hbc hbg (by rw [← hw]; exact decide_eq_false (hc_lt.mp c116))
            have hhp : hb_hp (C dn) (hb_hang C dn) en Wm i = false := hb_hp_v hbc hbg (by rw [← hw]; exact decide_eq_false (hc_gt.mp c139))
            refine lv_iinc (v := nI (i + 1)) (lv' := [(6, .int (nI (i + 1))), (7, .double (FP.dadd en (FP.dadd (FP.dmul (Wm i) 4602678819172646912) (FP.dmul en 4598175219545276416)))), (2, .long (C dn)), (4, .long (hb_hang C dn)), (0, .ref a), (1, .ref so)]) hx hb dX6_grow_151 hl (k := 1) rfl (hw_inc _) (by decide) rfl (fun ls hl => ?_)
            refine lv_goto (tgt := 23) hx hb dX6_grow_154 (by decide) ?_
            exact ih23 _ _ _ (hI.eq (by rw [hb_g6 n0, bx_uu, hb_mix_s hw, hb_lkF lk (hb_lp (C dn) (hb_hang C dn) en Wm) i hlp, hb_lkF ho (hb_hp (C dn) (hb_hang C dn) en Wm) i hhp])) (lv_sub hl [0, 2, 3, 4, 5] rfl)
          · refine lv_iconst (v := nI 1) hx hb dX6_grow_142 (by decide) ?_
            refine lv_goto (tgt := 147) hx hb dX6_grow_143 (by decide) ?_
            refine lv_iadd hx hb dX6_grow_147 ?_
            refine hw_put (fs' := [.double en, .ref wa, .double cu, .int ((lk + nI (hb_ct (hb_lp (C dn) (hb_hang C dn) en Wm) i)) + (nI 0)), .int ((ho + nI (hb_ct (hb_hp (C dn) (hb_hang C dn) en Wm) i)) + (nI 1)), .int (nI dn)]) hx hb hts hown hk hI fp_X6_50 (hw_us _ _ _) (Nat.le_of_ble_eq_true rfl) rfl rfl rfl dX6_grow_148 (fun H locs hI => ?_)
            have hbc := hq_bt c49
            have hw := hb_wf_t (e := en) (W := Wm) hbc
            have hbg : hb_bit (hb_hang C dn) i = false := hq_bf c94
            have hlp : hb_lp (C dn) (hb_hang C dn) en Wm i = false := hb_lp_v hbc hbg (by rw [← hw]; exact decide_eq_false (hc_lt.mp c116))
            have hhp : hb_hp (C dn) (hb_hang C dn) en Wm i = true := hb_hp_v hbc hbg (by rw [← hw]; exact decide_eq_true (Decidable.byContradiction (fun q => c139 (hc_gt.mpr q))))
            refine lv_iinc (v := nI (i + 1)) (lv' := [(6, .int (nI (i + 1))), (7, .double (FP.dadd en (FP.dadd (FP.dmul (Wm i) 4602678819172646912) (FP.dmul en 4598175219545276416)))), (2, .long (C dn)), (4, .long (hb_hang C dn)), (0, .ref a), (1, .ref so)]) hx hb dX6_grow_151 hl (k := 1) rfl (hw_inc _) (by decide) rfl (fun ls hl => ?_)
            refine lv_goto (tgt := 23) hx hb dX6_grow_154 (by decide) ?_
            exact ih23 _ _ _ (hI.eq (by rw [hb_g6 n0, bx_uu, hb_mix_s hw, hb_lkF lk (hb_lp (C dn) (hb_hang C dn) en Wm) i hlp, hb_lk ho (hb_hp (C dn) (hb_hang C dn) en Wm) i hhp])) (lv_sub hl [0, 2, 3, 4, 5] rfl)
        · refine lv_iconst (v := nI 1) hx hb dX6_grow_119 (by decide) ?_
          refine lv_goto (tgt := 124) hx hb dX6_grow_120 (by decide) ?_
          refine lv_iadd hx hb dX6_grow_124 ?_
          refine hw_put (fs' := [.double en, .ref wa, .double cu, .int ((lk + nI (hb_ct (hb_lp (C dn) (hb_hang C dn) en Wm) i)) + (nI 1)), .int (ho + nI (hb_ct (hb_hp (C dn) (hb_hang C dn) en Wm) i)), .int (nI dn)]) hx hb hts hown hk hI fp_X6_45 (hw_up (hw_up (hw_up (hw_us _ _ _) n0) n0) n0) (Nat.le_of_ble_eq_true rfl) rfl rfl rfl dX6_grow_125 (fun H locs hI => ?_)
          refine lv_aload_n hx hb dX6_grow_128 rfl (lv_at hl 4 rfl) ?_
          refine lv_dup hx hb dX6_grow_129 rfl ?_
          refine hw_get hx hb hts hown hk hI fd_X6_50 (hw_us _ _ _) rfl dX6_grow_130 ?_
          refine lv_dload hx hb dX6_grow_133 (lv_at hl 0 rfl) ?_
          refine lv_ldc2d (v := 4618441417868443648) hx hb hown (hts _ (hw_win (w := .constantDouble RX6 53 4618441417868443648) (by decide +kernel) (by decide +kernel))) dX6_grow_135 ?_
          refine lv_dcmp hx hb dX6_grow_138 ?_
          refine lv_if_le (tgt := 146) hx hb dX6_grow_139 (by decide) (fun c139 => ?_) (fun c139 => ?_)
          · refine lv_iconst (v := nI 0) hx hb dX6_grow_146 (by decide) ?_
            refine lv_iadd hx hb dX6_grow_147 ?_
            refine hw_put (fs' := [.double en, .ref wa, .double cu, .int ((lk + nI (hb_ct (hb_lp (C dn) (hb_hang C dn) en Wm) i)) + (nI 1)), .int ((ho + nI (hb_ct (hb_hp (C dn) (hb_hang C dn) en Wm) i)) + (nI 0)), .int (nI dn)]) hx hb hts hown hk hI fp_X6_50 (hw_us _ _ _) (Nat.le_of_ble_eq_true rfl) rfl rfl rfl dX6_grow_148 (fun H locs hI => ?_)
            have hbc := hq_bt c49
            have hw := hb_wf_t (e := en) (W := Wm) hbc
            have hbg : hb_bit (hb_hang C dn) i = false := hq_bf c94
            have hlp : hb_lp (C dn) (hb_hang C dn) en Wm i = true := hb_lp_v hbc hbg (by rw [← hw]; exact decide_eq_true (Decidable.byContradiction (fun q => c116 (hc_lt.mpr q))))
            have hhp : hb_hp (C dn) (hb_hang C dn) en Wm i = false := hb_hp_v hbc hbg (by rw [← hw]; exact decide_eq_false (hc_gt.mp c139))
            refine lv_iinc (v := nI (i + 1)) (lv' := [(6, .int (nI (i + 1))), (7, .double (FP.dadd en (FP.dadd (FP.dmul (Wm i) 4602678819172646912) (FP.dmul en 4598175219545276416)))), (2, .long (C dn)), (4, .long (hb_hang C dn)), (0, .ref a), (1, .ref so)]) hx hb dX6_grow_151 hl (k := 1) rfl (hw_inc _) (by decide) rfl (fun ls hl => ?_)
            refine lv_goto (tgt := 23) hx hb dX6_grow_154 (by decide) ?_
            exact ih23 _ _ _ (hI.eq (by rw [hb_g6 n0, bx_uu, hb_mix_s hw, hb_lk lk (hb_lp (C dn) (hb_hang C dn) en Wm) i hlp, hb_lkF ho (hb_hp (C dn) (hb_hang C dn) en Wm) i hhp])) (lv_sub hl [0, 2, 3, 4, 5] rfl)
          · refine lv_iconst (v := nI 1) hx hb dX6_grow_142 (by decide) ?_
            refine lv_goto (tgt := 147) hx hb dX6_grow_143 (by decide) ?_
            refine lv_iadd hx hb dX6_grow_147 ?_
            refine hw_put (fs' := [.double en, .ref wa, .double cu, .int ((lk + nI (hb_ct (hb_lp (C dn) (hb_hang C dn) en Wm) i)) + (nI 1)), .int ((ho + nI (hb_ct (hb_hp (C dn) (hb_hang C dn) en Wm) i)) + (nI 1)), .int (nI dn)]) hx hb hts hown hk hI fp_X6_50 (hw_us _ _ _) (Nat.le_of_ble_eq_true rfl) rfl rfl rfl dX6_grow_148 (fun H locs hI => ?_)
            have hbc := hq_bt c49
            have hw := hb_wf_t (e := en) (W := Wm) hbc
            have hbg : hb_bit (hb_hang C dn) i = false := hq_bf c94
            have hlp : hb_lp (C dn) (hb_hang C dn) en Wm i = true := hb_lp_v hbc hbg (by rw [← hw]; exact decide_eq_true (Decidable.byContradiction (fun q => c116 (hc_lt.mpr q))))
            have hhp : hb_hp (C dn) (hb_hang C dn) en Wm i = true := hb_hp_v hbc hbg (by rw [← hw]; exact decide_eq_true (Decidable.byContradiction (fun q => c139 (hc_gt.mpr q))))
            refine lv_iinc (v := nI (i + 1)) (lv' := [(6, .int (nI (i + 1))), (7, .double (FP.dadd en (FP.dadd (FP.dmul (Wm i) 4602678819172646912) (FP.dmul en 4598175219545276416)))), (2, .long (C dn)), (4, .long (hb_hang C dn)), (0, .ref a), (1, .ref so)]) hx hb dX6_grow_151 hl (k := 1) rfl (hw_inc _) (by decide) rfl (fun ls hl => ?_)
            refine lv_goto (tgt := 23) hx hb dX6_grow_154 (by decide) ?_
            exact ih23 _ _ _ (hI.eq (by rw [hb_g6 n0, bx_uu, hb_mix_s hw, hb_lk lk (hb_lp (C dn) (hb_hang C dn) en Wm) i hlp, hb_lk ho (hb_hp (C dn) (hb_hang C dn) en Wm) i hhp])) (lv_sub hl [0, 2, 3, 4, 5] rfl)
      · refine lv_dload hx hb dX6_grow_97 (lv_at hl 0 rfl) ?_
        refine lv_ldc2d (v := 4609434218613702656) hx hb hown (hts _ (hw_win (w := .constantDouble RX6 43 4609434218613702656) (by decide +kernel) (by decide +kernel))) dX6_grow_99 ?_
        refine lv_dmul hx hb dX6_grow_102 (hf_n (hf_mul (hf_add hen (hf_add (hf_mul (hW i) hf_half) (hf_mul hen hf_quarter))) hf_onehalf)) ?_
        refine lv_dstore (lv' := [(7, .double (FP.dmul (FP.dadd en (FP.dadd (FP.dmul (Wm i) 4602678819172646912) (FP.dmul en 4598175219545276416))) 4609434218613702656)), (6, .int (nI i)), (2, .long (C dn)), (4, .long (hb_hang C dn)), (0, .ref a), (1, .ref so)]) hx hb dX6_grow_103 hl (by decide) rfl (fun ls hl => ?_)
        refine lv_aload_n hx hb dX6_grow_105 rfl (lv_at hl 4 rfl) ?_
        refine lv_dup hx hb dX6_grow_106 rfl ?_
        refine hw_get hx hb hts hown hk hI fd_X6_45 (hw_up (hw_up (hw_up (hw_us _ _ _) n0) n0) n0) rfl dX6_grow_107 ?_
        refine lv_dload hx hb dX6_grow_110 (lv_at hl 0 rfl) ?_
        refine lv_ldc2d (v := 4611686018427387904) hx hb hown (hts _ (hw_win (w := .constantDouble RX6 48 4611686018427387904) (by decide +kernel) (by decide +kernel))) dX6_grow_112 ?_
        refine lv_dcmp hx hb dX6_grow_115 ?_
        refine lv_if_ge (tgt := 123) hx hb dX6_grow_116 (by decide) (fun c116 => ?_) (fun c116 => ?_)
        · refine lv_iconst (v := nI 0) hx hb dX6_grow_123 (by decide) ?_
          refine lv_iadd hx hb dX6_grow_124 ?_
          refine hw_put (fs' := [.double en, .ref wa, .double cu, .int ((lk + nI (hb_ct (hb_lp (C dn) (hb_hang C dn) en Wm) i)) + (nI 0)), .int (ho + nI (hb_ct (hb_hp (C dn) (hb_hang C dn) en Wm) i)), .int (nI dn)]) hx hb hts hown hk hI fp_X6_45 (hw_up (hw_up (hw_up (hw_us _ _ _) n0) n0) n0) (Nat.le_of_ble_eq_true rfl) rfl rfl rfl dX6_grow_125 (fun H locs hI => ?_)
          refine lv_aload_n hx hb dX6_grow_128 rfl (lv_at hl 4 rfl) ?_
          refine lv_dup hx hb dX6_grow_129 rfl ?_
          refine hw_get hx hb hts hown hk hI fd_X6_50 (hw_us _ _ _) rfl dX6_grow_130 ?_
          refine lv_dload hx hb dX6_grow_133 (lv_at hl 0 rfl) ?_
          refine lv_ldc2d (v := 4618441417868443648) hx hb hown (hts _ (hw_win (w := .constantDouble RX6 53 4618441417868443648) (by decide +kernel) (by decide +kernel))) dX6_grow_135 ?_
          refine lv_dcmp hx hb dX6_grow_138 ?_
          refine lv_if_le (tgt := 146) hx hb dX6_grow_139 (by decide) (fun c139 => ?_) (fun c139 => ?_)
          · refine lv_iconst (v := nI 0) hx hb dX6_grow_146 (by decide) ?_
            refine lv_iadd hx hb dX6_grow_147 ?_
            refine hw_put (fs' := [.double en, .ref wa, .double cu, .int ((lk + nI (hb_ct (hb_lp (C dn) (hb_hang C dn) en Wm) i)) + (nI 0)), .int ((ho + nI (hb_ct (hb_hp (C dn) (hb_hang C dn) en Wm) i)) + (nI 0)), .int (nI dn)]) hx hb hts hown hk hI fp_X6_50 (hw_us _ _ _) (Nat.le_of_ble_eq_true rfl) rfl rfl rfl dX6_grow_148 (fun H locs hI => ?_)
            have hbc := hq_bt c49
            have hw := hb_wf_t (e := en) (W := Wm) hbc
            have hbg : hb_bit (hb_hang C dn) i = true := hq_bt c94
            have hlp : hb_lp (C dn) (hb_hang C dn) en Wm i = false := hb_lp_v hbc hbg (by rw [← hw]; exact decide_eq_false (hc_lt.mp c116))
            have hhp : hb_hp (C dn) (hb_hang C dn) en Wm i = false := hb_hp_v hbc hbg (by rw [← hw]; exact decide_eq_false (hc_gt.mp c139))
            refine lv_iinc (v := nI (i + 1)) (lv' := [(6, .int (nI (i + 1))), (7, .double (FP.dmul (FP.dadd en (FP.dadd (FP.dmul (Wm i) 4602678819172646912) (FP.dmul en 4598175219545276416))) 4609434218613702656)), (2, .long (C dn)), (4, .long (hb_hang C dn)), (0, .ref a), (1, .ref so)]) hx hb dX6_grow_151 hl (k := 1) rfl (hw_inc _) (by decide) rfl (fun ls hl => ?_)
            refine lv_goto (tgt := 23) hx hb dX6_grow_154 (by decide) ?_
            exact ih23 _ _ _ (hI.eq (by rw [hb_g6 n0, bx_uu, hb_mix_s hw, hb_lkF lk (hb_lp (C dn) (hb_hang C dn) en Wm) i hlp, hb_lkF ho (hb_hp (C dn) (hb_hang C dn) en Wm) i hhp])) (lv_sub hl [0, 2, 3, 4, 5] rfl)
          · refine lv_iconst (v := nI 1) hx hb dX6_grow_142 (by decide) ?_
            refine lv_goto (tgt := 147) hx hb dX6_grow_143 (by decide) ?_
            refine lv_iadd hx hb dX6_grow_147 ?_
            refine hw_put (fs' := [.double en, .ref wa, .double cu, .int ((lk + nI (hb_ct (hb_lp (C dn) (hb_hang C dn) en Wm) i)) + (nI 0)), .int ((ho + nI (hb_ct (hb_hp (C dn) (hb_hang C dn) en Wm) i)) + (nI 1)), .int (nI dn)]) hx hb hts hown hk hI fp_X6_50 (hw_us _ _ _) (Nat.le_of_ble_eq_true rfl) rfl rfl rfl dX6_grow_148 (fun H locs hI => ?_)
            have hbc := hq_bt c49
            have hw := hb_wf_t (e := en) (W := Wm) hbc
            have hbg : hb_bit (hb_hang C dn) i = true := hq_bt c94
            have hlp : hb_lp (C dn) (hb_hang C dn) en Wm i = false := hb_lp_v hbc hbg (by rw [← hw]; exact decide_eq_false (hc_lt.mp c116))
            have hhp : hb_hp (C dn) (hb_hang C dn) en Wm i = true := hb_hp_v hbc hbg (by rw [← hw]; exact decide_eq_true (Decidable.byContradiction (fun q => c139 (hc_gt.mpr q))))
            refine lv_iinc (v := nI (i + 1)) (lv' := [(6, .int (nI (i + 1))), (7, .double (FP.dmul (FP.dadd en (FP.dadd (FP.dmul (Wm i) 4602678819172646912) (FP.dmul en 4598175219545276416))) 4609434218613702656)), (2, .long (C dn)), (4, .long (hb_hang C dn)), (0, .ref a), (1, .ref so)]) hx hb dX6_grow_151 hl (k := 1) rfl (hw_inc _) (by decide) rfl (fun ls hl => ?_)
            refine lv_goto (tgt := 23) hx hb dX6_grow_154 (by decide) ?_
            exact ih23 _ _ _ (hI.eq (by rw [hb_g6 n0, bx_uu, hb_mix_s hw, hb_lkF lk (hb_lp (C dn) (hb_hang C dn) en Wm) i hlp, hb_lk ho (hb_hp (C dn) (hb_hang C dn) en Wm) i hhp])) (lv_sub hl [0, 2, 3, 4, 5] rfl)
        · refine lv_iconst (v := nI 1) hx hb dX6_grow_119 (by decide) ?_
          refine lv_goto (tgt := 124) hx hb dX6_grow_120 (by decide) ?_
          refine lv_iadd hx hb dX6_grow_124 ?_
          refine hw_put (fs' := [.double en, .ref wa, .double cu, .int ((lk + nI (hb_ct (hb_lp (C dn) (hb_hang C dn) en Wm) i)) + (nI 1)), .int (ho + nI (hb_ct (hb_hp (C dn) (hb_hang C dn) en Wm) i)), .int (nI dn)]) hx hb hts hown hk hI fp_X6_45 (hw_up (hw_up (hw_up (hw_us _ _ _) n0) n0) n0) (Nat.le_of_ble_eq_true rfl) rfl rfl rfl dX6_grow_125 (fun H locs hI => ?_)
          refine lv_aload_n hx hb dX6_grow_128 rfl (lv_at hl 4 rfl) ?_
          refine lv_dup hx hb dX6_grow_129 rfl ?_
          refine hw_get hx hb hts hown hk hI fd_X6_50 (hw_us _ _ _) rfl dX6_grow_130 ?_
          refine lv_dload hx hb dX6_grow_133 (lv_at hl 0 rfl) ?_
          refine lv_ldc2d (v := 4618441417868443648) hx hb hown (hts _ (hw_win (w := .constantDouble RX6 53 4618441417868443648) (by decide +kernel) (by decide +kernel))) dX6_grow_135 ?_
          refine lv_dcmp hx hb dX6_grow_138 ?_
          refine lv_if_le (tgt := 146) hx hb dX6_grow_139 (by decide) (fun c139 => ?_) (fun c139 => ?_)
          · refine lv_iconst (v := nI 0) hx hb dX6_grow_146 (by decide) ?_
            refine lv_iadd hx hb dX6_grow_147 ?_
            refine hw_put (fs' := [.double en, .ref wa, .double cu, .int ((lk + nI (hb_ct (hb_lp (C dn) (hb_hang C dn) en Wm) i)) + (nI 1)), .int ((ho + nI (hb_ct (hb_hp (C dn) (hb_hang C dn) en Wm) i)) + (nI 0)), .int (nI dn)]) hx hb hts hown hk hI fp_X6_50 (hw_us _ _ _) (Nat.le_of_ble_eq_true rfl) rfl rfl rfl dX6_grow_148 (fun H locs hI => ?_)
            have hbc := hq_bt c49
            have hw := hb_wf_t (e := en) (W := Wm) hbc
            have hbg : hb_bit (hb_hang C dn) i = true := hq_bt c94
            have hlp : hb_lp (C dn) (hb_hang C dn) en Wm i = true := hb_lp_v hbc hbg (by rw [← hw]; exact decide_eq_true (Decidable.byContradiction (fun q => c116 (hc_lt.mpr q))))
            have hhp : hb_hp (C dn) (hb_hang C dn) en Wm i = false := hb_hp_v hbc hbg (by rw [← hw]; exact decide_eq_false (hc_gt.mp c139))
            refine lv_iinc (v := nI (i + 1)) (lv' := [(6, .int (nI (i + 1))), (7, .double (FP.dmul (FP.dadd en (FP.dadd (FP.dmul (Wm i) 4602678819172646912) (FP.dmul en 4598175219545276416))) 4609434218613702656)), (2, .long (C dn)), (4, .long (hb_hang C dn)), (0, .ref a), (1, .ref so)]) hx hb dX6_grow_151 hl (k := 1) rfl (hw_inc _) (by decide) rfl (fun ls hl => ?_)
            refine lv_goto (tgt := 23) hx hb dX6_grow_154 (by decide) ?_
            exact ih23 _ _ _ (hI.eq (by rw [hb_g6 n0, bx_uu, hb_mix_s hw, hb_lk lk (hb_lp (C dn) (hb_hang C dn) en Wm) i hlp, hb_lkF ho (hb_hp (C dn) (hb_hang C dn) en Wm) i hhp])) (lv_sub hl [0, 2, 3, 4, 5] rfl)
          · refine lv_iconst (v := nI 1) hx hb dX6_grow_142 (by decide) ?_
            refine lv_goto (tgt := 147) hx hb dX6_grow_143 (by decide) ?_
            refine lv_iadd hx hb dX6_grow_147 ?_
            refine hw_put (fs' := [.double en, .ref wa, .double cu, .int ((lk + nI (hb_ct (hb_lp (C dn) (hb_hang C dn) en Wm) i)) + (nI 1)), .int ((ho + nI (hb_ct (hb_hp (C dn) (hb_hang C dn) en Wm) i)) + (nI 1)), .int (nI dn)]) hx hb hts hown hk hI fp_X6_50 (hw_us _ _ _) (Nat.le_of_ble_eq_true rfl) rfl rfl rfl dX6_grow_148 (fun H locs hI => ?_)
            have hbc := hq_bt c49
            have hw := hb_wf_t (e := en) (W := Wm) hbc
            have hbg : hb_bit (hb_hang C dn) i = true := hq_bt c94
            have hlp : hb_lp (C dn) (hb_hang C dn) en Wm i = true := hb_lp_v hbc hbg (by rw [← hw]; exact decide_eq_true (Decidable.byContradiction (fun q => c116 (hc_lt.mpr q))))
            have hhp : hb_hp (C dn) (hb_hang C dn) en Wm i = true := hb_hp_v hbc hbg (by rw [← hw]; exact decide_eq_true (Decidable.byContradiction (fun q => c139 (hc_gt.mpr q))))
            refine lv_iinc (v := nI (i + 1)) (lv' := [(6, .int (nI (i + 1))), (7, .double (FP.dmul (FP.dadd en (FP.dadd (FP.dmul (Wm i) 4602678819172646912) (FP.dmul en 4598175219545276416))) 4609434218613702656)), (2, .long (C dn)), (4, .long (hb_hang C dn)), (0, .ref a), (1, .ref so)]) hx hb dX6_grow_151 hl (k := 1) rfl (hw_inc _) (by decide) rfl (fun ls hl => ?_)
            refine lv_goto (tgt := 23) hx hb dX6_grow_154 (by decide) ?_
            exact ih23 _ _ _ (hI.eq (by rw [hb_g6 n0, bx_uu, hb_mix_s hw, hb_lk lk (hb_lp (C dn) (hb_hang C dn) en Wm) i hlp, hb_lk ho (hb_hp (C dn) (hb_hang C dn) en Wm) i hhp])) (lv_sub hl [0, 2, 3, 4, 5] rfl)
    · refine lv_goto (tgt := 151) hx hb dX6_grow_52 (by decide) ?_
      refine lv_iinc (v := nI (i + 1)) (lv' := [(6, .int (nI (i + 1))), (2, .long (C dn)), (4, .long (hb_hang C dn)), (0, .ref a), (1, .ref so)]) hx hb dX6_grow_151 hl (k := 0) rfl (hw_inc _) (by decide) rfl (fun ls hl => ?_)
      refine lv_goto (tgt := 23) hx hb dX6_grow_154 (by decide) ?_
      exact ih23 _ _ _ (hI.eq (by rw [hb_up2, hb_mix_s (hb_wf_f (hq_bf c49)), ← hb_lk0 lk (hb_lp (C dn) (hb_hang C dn) en Wm) i (hb_lp_f (hq_bf c49)), ← hb_lk0 ho (hb_hp (C dn) (hb_hang C dn) en Wm) i (hb_hp_f (hq_bf c49))])) (lv_sub hl [0, 1, 2, 3, 4] rfl)

set_option maxHeartbeats 4000000 in
set_option maxRecDepth 100000 in
theorem m_X8_init (l : Launch) (Z : hw_Z) (M : hw_M) (a : Nat) (h0 : M a = hw_ob 9 [.null, .int 0, .null, .int 0, .int 0, .int 0, .int 0, .int 0, .int 0]) : Met l yX8_init (hw_m yX8_init cX8_init 1 none) ({ frames := 2, cells := 4, slots := 79, locals := 34 } : Room) (va_Pc [.ref a] (hw_P Z M)) (hw_Qv Z (fun M' => ∃ (so : Nat) (ca : Nat) (gr : Nat) (wa : Nat), (M so = none ∧ M ca = none ∧ M gr = none ∧ M wa = none) ∧ (so ≠ ca ∧ so ≠ gr ∧ so ≠ wa ∧ ca ≠ gr ∧ ca ≠ wa ∧ gr ≠ wa) ∧ (M' so = hw_ob 11 [.ref ca] ∧ M' ca = hw_al Z 8 (fun _ => 0) ∧ M' gr = hw_ob 7 [.double (hb_en (nI 1) (nI 1)), .ref wa, .double 0, .int 0, .int 0, .int 0] ∧ M' wa = hw_ad Z 64 (fun _ => 0)) ∧ M' a = hw_ob 9 [.ref so, .int (nI 0), .ref gr, .int 0, .int (-1), .int (-1), .int (-1), .int (-1), .int (-1)] ∧ ∀ x, M x ≠ none → x ≠ a → M' x = M x)) 4 79 (hw_A Z) := by
  refine hw_ofv (by decide +kernel) rfl (Nat.le_of_ble_eq_true rfl) ?_
  intro p e s m below meth c ls Q hx hb hml hown hts hk hnm hI hl hret
  refine lv_aload_n hx hb dX8_init_0 rfl (lv_at hl 0 rfl) ?_
  refine W.objInit hx hb hown (hts _ (hw_win (w := .methodLink RX8 3 objectInit) (by decide +kernel) (by decide +kernel))) (hts _ (hw_win (w := .instanceMethod objectInit) (by decide +kernel) (by decide +kernel))) (hts _ (hw_win (w := .code objectInit ⟨#[0xb1]⟩ 1 none) (by decide +kernel) (by decide +kernel))) rfl (by rw [hml]; exact hl.1) rfl dX8_init_1 (Nat.le_of_ble_eq_true rfl) (Nat.le_of_ble_eq_true rfl) ?_
  refine W.eq (g2 := F0 m 4 ls []) rfl ?_
  refine lv_aload_n hx hb dX8_init_4 rfl (lv_at hl 0 rfl) ?_
  refine hw_new hx hb hts hown hk hI fn_X8_9 (Nat.le_of_ble_eq_true rfl) (Nat.le_of_ble_eq_true rfl) dX8_init_5 (fun q5 H hq5 hI => ?_)
  have b_q5 : M q5 = none := hw_alv.n (hw_alv_r M) hq5
  refine lv_dup hx hb dX8_init_8 rfl ?_
  refine hw_cv hI (hw_rIN hx hb hml hown hts hk hI (m_X10_init l Z (va_up M q5 (hw_ob 11 [.null])) q5 (hw_us _ _ _)) cn_X8_11 ⟨rfl, rfl⟩ ⟨(Nat.le_of_ble_eq_true rfl), (Nat.le_of_ble_eq_true rfl)⟩ rfl hl.1 rfl (Nat.le_of_ble_eq_true rfl) ⟨(Nat.le_of_ble_eq_true rfl), (Nat.le_of_ble_eq_true rfl)⟩ dX8_init_9) (fun M9 H locs hR hI => ?_)
  obtain ⟨ca_9, hn_ca_9, hd9, he_ca_9, ha9, hF9⟩ := hR
  have f9_a := (hF9 _ (hw_sn (hw_up h0 (hw_nn h0 hq5))) (hw_nn h0 hq5)).trans (hw_up h0 (hw_nn h0 hq5))
  have g9_a_ca_9 : a ≠ ca_9 := hw_xn (hw_sn (hw_up h0 (hw_nn h0 hq5))) hn_ca_9
  have g9_q5_ca_9 : q5 ≠ ca_9 := hw_xn (hw_sn (hw_us _ _ _)) hn_ca_9
  have b_ca_9 : M ca_9 = none := hw_alv.n (hw_alv_u (hw_alv_r M)) hn_ca_9
  have al9 : hw_alv M M9 := hw_alv_F (hw_alv_u (hw_alv_r M)) hF9 ha9
  have fr9 : ∀ x, M x ≠ none → x ≠ a → M9 x = M x := fun x hx hxa => by rw [hF9 x ((hw_alv_u (hw_alv_r M)) x hx) (hw_xn hx b_q5), va_up_ne _ _ (hw_xn hx b_q5)]
  refine hw_put (fs' := [.ref q5, .int 0, .null, .int 0, .int 0, .int 0, .int 0, .int 0, .int 0]) hx hb hts hown hk hI fp_X8_12 f9_a (Nat.le_of_ble_eq_true rfl) rfl rfl rfl dX8_init_12 (fun H locs hI => ?_)
  refine lv_aload_n hx hb dX8_init_15 rfl (lv_at hl 0 rfl) ?_
  refine lv_iconst (v := nI 0) hx hb dX8_init_16 (by decide) ?_
  refine hw_put (fs' := [.ref q5, .int (nI 0), .null, .int 0, .int 0, .int 0, .int 0, .int 0, .int 0]) hx hb hts hown hk hI fp_X8_18 (hw_us _ _ _) (Nat.le_of_ble_eq_true rfl) rfl rfl rfl dX8_init_17 (fun H locs hI => ?_)
  refine lv_aload_n hx hb dX8_init_20 rfl (lv_at hl 0 rfl) ?_
  refine hw_new hx hb hts hown hk hI fn_X8_22 (Nat.le_of_ble_eq_true rfl) (Nat.le_of_ble_eq_true rfl) dX8_init_21 (fun q21 H hq21 hI => ?_)
  have b_q21 : M q21 = none := hw_alv.n (hw_alv_u (hw_alv_u al9)) hq21
  refine lv_dup hx hb dX8_init_24 rfl ?_
  refine lv_iconst (v := nI 1) hx hb dX8_init_25 (by decide) ?_
  refine lv_iconst (v := nI 1) hx hb dX8_init_26 (by decide) ?_
  refine hw_cv hI (hw_rI hx hb hml hown hts hk hI (m_X6_init l Z (va_up (va_up (va_up M9 a (hw_ob 9 [.ref q5, .int 0, .null, .int 0, .int 0, .int 0, .int 0, .int 0, .int 0])) a (hw_ob 9 [.ref q5, .int (nI 0), .null, .int 0, .int 0, .int 0, .int 0, .int 0, .int 0])) q21 (hw_ob 7 [.double 0, .null, .double 0, .int 0, .int 0, .int 0])) q21 (nI 1) (nI 1) (hw_us _ _ _) (by decide) (by decide)) ci_X8_24 ⟨rfl, rfl⟩ ⟨(Nat.le_of_ble_eq_true rfl), (Nat.le_of_ble_eq_true rfl)⟩ rfl hl.1 rfl (Nat.le_of_ble_eq_true rfl) ⟨(Nat.le_of_ble_eq_true rfl), (Nat.le_of_ble_eq_true rfl)⟩ dX8_init_27) (fun M27 H locs hR hI => ?_)
  obtain ⟨wa_27, hn_wa_27, hd27, he_wa_27, ha27, hF27⟩ := hR
  have f27_a := (hF27 _ (hw_sn (hw_up (hw_us _ _ _) (hw_nn (hw_us _ _ _) hq21))) (hw_nn (hw_us _ _ _) hq21)).trans (hw_up (hw_us _ _ _) (hw_nn (hw_us _ _ _) hq21))
  have g27_a_wa_27 : a ≠ wa_27 := hw_xn (hw_sn (hw_up (hw_us _ _ _) (hw_nn (hw_us _ _ _) hq21))) hn_wa_27
  have f27_q5 := (hF27 _ (hw_sn (hw_up (hw_up (hw_up ha9 (Ne.symm (hw_nn h0 hq5))) (Ne.symm (hw_nn h0 hq5))) (hw_nn (hw_up (hw_up ha9 (Ne.symm (hw_nn h0 hq5))) (Ne.symm (hw_nn h0 hq5))) hq21))) (hw_nn (hw_up (hw_up ha9 (Ne.symm (hw_nn h0 hq5))) (Ne.symm (hw_nn h0 hq5))) hq21)).trans (hw_up (hw_up (hw_up ha9 (Ne.symm (hw_nn h0 hq5))) (Ne.symm (hw_nn h0 hq5))) (hw_nn (hw_up (hw_up ha9 (Ne.symm (hw_nn h0 hq5))) (Ne.symm (hw_nn h0 hq5))) hq21))
  have g27_q5_wa_27 : q5 ≠ wa_27 := hw_xn (hw_sn (hw_up (hw_up (hw_up ha9 (Ne.symm (hw_nn h0 hq5))) (Ne.symm (hw_nn h0 hq5))) (hw_nn (hw_up (hw_up ha9 (Ne.symm (hw_nn h0 hq5))) (Ne.symm (hw_nn h0 hq5))) hq21))) hn_wa_27
  have f27_ca_9 := (hF27 _ (hw_sn (hw_up (hw_up (hw_up he_ca_9 (Ne.symm g9_a_ca_9)) (Ne.symm g9_a_ca_9)) (hw_nn (hw_up (hw_up he_ca_9 (Ne.symm g9_a_ca_9)) (Ne.symm g9_a_ca_9)) hq21))) (hw_nn (hw_up (hw_up he_ca_9 (Ne.symm g9_a_ca_9)) (Ne.symm g9_a_ca_9)) hq21)).trans (hw_up (hw_up (hw_up he_ca_9 (Ne.symm g9_a_ca_9)) (Ne.symm g9_a_ca_9)) (hw_nn (hw_up (hw_up he_ca_9 (Ne.symm g9_a_ca_9)) (Ne.symm g9_a_ca_9)) hq21))
  have g27_ca_9_wa_27 : ca_9 ≠ wa_27 := hw_xn (hw_sn (hw_up (hw_up (hw_up he_ca_9 (Ne.symm g9_a_ca_9)) (Ne.symm g9_a_ca_9)) (hw_nn (hw_up (hw_up he_ca_9 (Ne.symm g9_a_ca_9)) (Ne.symm g9_a_ca_9)) hq21))) hn_wa_27
  have g27_q21_wa_27 : q21 ≠ wa_27 := hw_xn (hw_sn (hw_us _ _ _)) hn_wa_27
  have b_wa_27 : M wa_27 = none := hw_alv.n (hw_alv_u (hw_alv_u (hw_alv_u al9))) hn_wa_27
  have al27 : hw_alv M M27 := hw_alv_F (hw_alv_u (hw_alv_u (hw_alv_u al9))) hF27 ha27
  have fr27 : ∀ x, M x ≠ none → x ≠ a → M27 x = M x := fun x hx hxa => by rw [hF27 x ((hw_alv_u (hw_alv_u (hw_alv_u al9))) x hx) (hw_xn hx b_q21), va_up_ne _ _ (hw_xn hx b_q21), va_up_ne _ _ hxa, va_up_ne _ _ hxa, fr9 x hx hxa]
  refine hw_put (fs' := [.ref q5, .int (nI 0), .ref q21, .int 0, .int 0, .int 0, .int 0, .int 0, .int 0]) hx hb hts hown hk hI fp_X8_27 f27_a (Nat.le_of_ble_eq_true rfl) rfl rfl rfl dX8_init_30 (fun H locs hI => ?_)
  refine lv_aload_n hx hb dX8_init_33 rfl (lv_at hl 0 rfl) ?_
  refine lv_iconst (v := (-1)) hx hb dX8_init_34 (by decide) ?_
  refine hw_put (fs' := [.ref q5, .int (nI 0), .ref q21, .int 0, .int (-1), .int 0, .int 0, .int 0, .int 0]) hx hb hts hown hk hI fp_X8_31 (hw_us _ _ _) (Nat.le_of_ble_eq_true rfl) rfl rfl rfl dX8_init_35 (fun H locs hI => ?_)
  refine lv_aload_n hx hb dX8_init_38 rfl (lv_at hl 0 rfl) ?_
  refine lv_iconst (v := (-1)) hx hb dX8_init_39 (by decide) ?_
  refine hw_put (fs' := [.ref q5, .int (nI 0), .ref q21, .int 0, .int (-1), .int (-1), .int 0, .int 0, .int 0]) hx hb hts hown hk hI fp_X8_34 (hw_us _ _ _) (Nat.le_of_ble_eq_true rfl) rfl rfl rfl dX8_init_40 (fun H locs hI => ?_)
  refine lv_aload_n hx hb dX8_init_43 rfl (lv_at hl 0 rfl) ?_
  refine lv_iconst (v := (-1)) hx hb dX8_init_44 (by decide) ?_
  refine hw_put (fs' := [.ref q5, .int (nI 0), .ref q21, .int 0, .int (-1), .int (-1), .int (-1), .int 0, .int 0]) hx hb hts hown hk hI fp_X8_37 (hw_us _ _ _) (Nat.le_of_ble_eq_true rfl) rfl rfl rfl dX8_init_45 (fun H locs hI => ?_)
  refine lv_aload_n hx hb dX8_init_48 rfl (lv_at hl 0 rfl) ?_
  refine lv_iconst (v := (-1)) hx hb dX8_init_49 (by decide) ?_
  refine hw_put (fs' := [.ref q5, .int (nI 0), .ref q21, .int 0, .int (-1), .int (-1), .int (-1), .int (-1), .int 0]) hx hb hts hown hk hI fp_X8_40 (hw_us _ _ _) (Nat.le_of_ble_eq_true rfl) rfl rfl rfl dX8_init_50 (fun H locs hI => ?_)
  refine lv_aload_n hx hb dX8_init_53 rfl (lv_at hl 0 rfl) ?_
  refine lv_iconst (v := (-1)) hx hb dX8_init_54 (by decide) ?_
  refine hw_put (fs' := [.ref q5, .int (nI 0), .ref q21, .int 0, .int (-1), .int (-1), .int (-1), .int (-1), .int (-1)]) hx hb hts hown hk hI fp_X8_43 (hw_us _ _ _) (Nat.le_of_ble_eq_true rfl) rfl rfl rfl dX8_init_55 (fun H locs hI => ?_)
  have hfin : (fun M' => ∃ (so : Nat) (ca : Nat) (gr : Nat) (wa : Nat), (M so = none ∧ M ca = none ∧ M gr = none ∧ M wa = none) ∧ (so ≠ ca ∧ so ≠ gr ∧ so ≠ wa ∧ ca ≠ gr ∧ ca ≠ wa ∧ gr ≠ wa) ∧ (M' so = hw_ob 11 [.ref ca] ∧ M' ca = hw_al Z 8 (fun _ => 0) ∧ M' gr = hw_ob 7 [.double (hb_en (nI 1) (nI 1)), .ref wa, .double 0, .int 0, .int 0, .int 0] ∧ M' wa = hw_ad Z 64 (fun _ => 0)) ∧ M' a = hw_ob 9 [.ref so, .int (nI 0), .ref gr, .int 0, .int (-1), .int (-1), .int (-1), .int (-1), .int (-1)] ∧ ∀ x, M x ≠ none → x ≠ a → M' x = M x) (va_up (va_up (va_up (va_up (va_up (va_up M27 a (hw_ob 9 [.ref q5, .int (nI 0), .ref q21, .int 0, .int 0, .int 0, .int 0, .int 0, .int 0])) a (hw_ob 9 [.ref q5, .int (nI 0), .ref q21, .int 0, .int (-1), .int 0, .int 0, .int 0, .int 0])) a (hw_ob 9 [.ref q5, .int (nI 0), .ref q21, .int 0, .int (-1), .int (-1), .int 0, .int 0, .int 0])) a (hw_ob 9 [.ref q5, .int (nI 0), .ref q21, .int 0, .int (-1), .int (-1), .int (-1), .int 0, .int 0])) a (hw_ob 9 [.ref q5, .int (nI 0), .ref q21, .int 0, .int (-1), .int (-1), .int (-1), .int (-1), .int 0])) a (hw_ob 9 [.ref q5, .int (nI 0), .ref q21, .int 0, .int (-1), .int (-1), .int (-1), .int (-1), .int (-1)])) := ⟨q5, ca_9, q21, wa_27, ⟨b_q5, b_ca_9, b_q21, b_wa_27⟩, ⟨g9_q5_ca_9, (hw_nn (hw_up (hw_up ha9 (Ne.symm (hw_nn h0 hq5))) (Ne.symm (hw_nn h0 hq5))) hq21), g27_q5_wa_27, (hw_nn (hw_up (hw_up he_ca_9 (Ne.symm g9_a_ca_9)) (Ne.symm g9_a_ca_9)) hq21), g27_ca_9_wa_27, g27_q21_wa_27⟩, ⟨hw_up (hw_up (hw_up (hw_up (hw_up (hw_up f27_q5 (Ne.symm (hw_nn h0 hq5))) (Ne.symm (hw_nn h0 hq5))) (Ne.symm (hw_nn h0 hq5))) (Ne.symm (hw_nn h0 hq5))) (Ne.symm (hw_nn h0 hq5))) (Ne.symm (hw_nn h0 hq5)), hw_up (hw_up (hw_up (hw_up (hw_up (hw_up f27_ca_9 (Ne.symm g9_a_ca_9)) (Ne.symm g9_a_ca_9)) (Ne.symm g9_a_ca_9)) (Ne.symm g9_a_ca_9)) (Ne.symm g9_a_ca_9)) (Ne.symm g9_a_ca_9), hw_up (hw_up (hw_up (hw_up (hw_up (hw_up ha27 (Ne.symm (hw_nn (hw_us _ _ _) hq21))) (Ne.symm (hw_nn (hw_us _ _ _) hq21))) (Ne.symm (hw_nn (hw_us _ _ _) hq21))) (Ne.symm (hw_nn (hw_us _ _ _) hq21))) (Ne.symm (hw_nn (hw_us _ _ _) hq21))) (Ne.symm (hw_nn (hw_us _ _ _) hq21)), hw_up (hw_up (hw_up (hw_up (hw_up (hw_up he_wa_27 (Ne.symm g27_a_wa_27)) (Ne.symm g27_a_wa_27)) (Ne.symm g27_a_wa_27)) (Ne.symm g27_a_wa_27)) (Ne.symm g27_a_wa_27)) (Ne.symm g27_a_wa_27)⟩, hw_us _ _ _, fun x hx hxa => by rw [va_up_ne _ _ hxa, va_up_ne _ _ hxa, va_up_ne _ _ hxa, va_up_ne _ _ hxa, va_up_ne _ _ hxa, va_up_ne _ _ hxa, fr27 x hx hxa]⟩
  exact hret hI hfin (Nat.le_of_ble_eq_true rfl) (Nat.le_of_ble_eq_true rfl) dX8_init_58

set_option maxHeartbeats 4000000 in
set_option maxRecDepth 100000 in
theorem m_X9_init (l : Launch) (Z : hw_Z) (M : hw_M) (a : Nat) (x1 : Int32) (x2 : Int32) (x3 : Int32) (h0 : M a = hw_ob 10 [.int 0, .int 0, .int 0, .int 0, .int 0]) : Met l yX9_init (hw_m yX9_init cX9_init 4 none) ({ frames := 1, cells := 0, slots := 0, locals := 12 } : Room) (va_Pc [.ref a, .int x1, .int x2, .int x3] (hw_P Z M)) (hw_Qv Z (fun M' => va_up M a (hw_ob 10 [.int x1, .int x2, .int 0, .int x3, .int (-1)]) = M')) 0 0 (hw_A Z) := by
  refine hw_ofv (by decide +kernel) rfl (Nat.le_of_ble_eq_true rfl) ?_
  intro p e s m below meth c ls Q hx hb hml hown hts hk hnm hI hl hret
  refine lv_aload_n hx hb dX9_init_0 rfl (lv_at hl 0 rfl) ?_
  refine W.objInit hx hb hown (hts _ (hw_win (w := .methodLink RX9 3 objectInit) (by decide +kernel) (by decide +kernel))) (hts _ (hw_win (w := .instanceMethod objectInit) (by decide +kernel) (by decide +kernel))) (hts _ (hw_win (w := .code objectInit ⟨#[0xb1]⟩ 1 none) (by decide +kernel) (by decide +kernel))) rfl (by rw [hml]; exact hl.1) rfl dX9_init_1 (Nat.le_of_ble_eq_true rfl) (Nat.le_of_ble_eq_true rfl) ?_
  refine W.eq (g2 := F0 m 4 ls []) rfl ?_
  refine lv_aload_n hx hb dX9_init_4 rfl (lv_at hl 0 rfl) ?_
  refine lv_iconst (v := (-1)) hx hb dX9_init_5 (by decide) ?_
  refine hw_put (fs' := [.int 0, .int 0, .int 0, .int 0, .int (-1)]) hx hb hts hown hk hI fp_X9_9 h0 (Nat.le_of_ble_eq_true rfl) rfl rfl rfl dX9_init_6 (fun H locs hI => ?_)
  refine lv_aload_n hx hb dX9_init_9 rfl (lv_at hl 0 rfl) ?_
  refine lv_iload_n hx hb dX9_init_10 rfl (lv_at hl 1 rfl) ?_
  refine hw_putF (fs' := [.int x1, .int 0, .int 0, .int 0, .int (-1)]) hx hb hts hown hnm hk hI fp_X9_15 (hw_us _ _ _) (Nat.le_of_ble_eq_true rfl) rfl rfl rfl dX9_init_11 (fun H locs hI => ?_)
  refine lv_aload_n hx hb dX9_init_14 rfl (lv_at hl 0 rfl) ?_
  refine lv_iload_n hx hb dX9_init_15 rfl (lv_at hl 2 rfl) ?_
  refine hw_put (fs' := [.int x1, .int x2, .int 0, .int 0, .int (-1)]) hx hb hts hown hk hI fp_X9_18 (hw_us _ _ _) (Nat.le_of_ble_eq_true rfl) rfl rfl rfl dX9_init_16 (fun H locs hI => ?_)
  refine lv_aload_n hx hb dX9_init_19 rfl (lv_at hl 0 rfl) ?_
  refine lv_iload_n hx hb dX9_init_20 rfl (lv_at hl 3 rfl) ?_
  refine hw_put (fs' := [.int x1, .int x2, .int 0, .int x3, .int (-1)]) hx hb hts hown hk hI fp_X9_21 (hw_us _ _ _) (Nat.le_of_ble_eq_true rfl) rfl rfl rfl dX9_init_21 (fun H locs hI => ?_)
  exact hret hI (by simp only [bx_uu]) (Nat.le_of_ble_eq_true rfl) (Nat.le_of_ble_eq_true rfl) dX9_init_24

set_option maxHeartbeats 4000000 in
set_option maxRecDepth 100000 in
theorem m_X8_density (l : Launch) (Z : hw_Z) (M : hw_M) (a : Nat) (so : Nat) (ca : Nat) (gr : Nat) (wa : Nat) (dn : Nat) (v1 : Int32) (v3 : Int32) (v4 : Int32) (v5 : Int32) (v6 : Int32) (v7 : Int32) (v8 : Int32) (lk : Int32) (ho : Int32) (en : UInt64) (cu : UInt64) (C : Nat → Int64) (h0 : M a = hw_ob 9 [.ref so, .int v1, .ref gr, .int v3, .int v4, .int v5, .int v6, .int v7, .int v8]) (h1 : M so = hw_ob 11 [.ref ca]) (h2 : M ca = hw_al Z 8 C) (h3 : M gr = hw_ob 7 [.double en, .ref wa, .double cu, .int lk, .int ho, .int (nI dn)]) : Met l yX8_density (hw_m yX8_density cX8_density 2 (some .double)) ({ frames := 3, cells := 0, slots := 0, locals := 90 } : Room) (va_Pc [.ref a] (hw_P Z M)) (hw_Qd Z (fun r M' => hb_dens lk ho (nI (hb_sm (fun k => hb_pc (C k)) 8)) = r ∧ M = M')) 0 0 (hw_A Z) := by
  refine hw_ofd (by decide +kernel) rfl (Nat.le_of_ble_eq_true rfl) ?_
  intro p e s m below meth c ls Q hx hb hml hown hts hk hnm hI hl hret
  refine lv_aload_n hx hb dX8_density_0 rfl (lv_at hl 0 rfl) ?_
  refine hw_get hx hb hts hown hk hI fd_X8_12 h0 rfl dX8_density_1 ?_
  refine hw_ci hI (hw_rV hx hb hml hown hts hk hI (m_X10_cells l Z M so ca C h1 h2) cv_X8_46 h1 rfl rfl ⟨rfl, rfl⟩ ⟨(Nat.le_of_ble_eq_true rfl), (Nat.le_of_ble_eq_true rfl)⟩ rfl hl.1 rfl (Nat.le_of_ble_eq_true rfl) ⟨(Nat.le_of_ble_eq_true rfl), (Nat.le_of_ble_eq_true rfl)⟩ dX8_density_4) (fun r4 M4 H locs hR hI => ?_)
  obtain ⟨rfl, rfl⟩ := hR
  refine lv_istore_n (lv' := [(1, .int (nI (hb_sm (fun k => hb_pc (C k)) 8))), (0, .ref a)]) hx hb dX8_density_7 rfl hl (by decide) rfl (fun ls hl => ?_)
  refine lv_iload_n hx hb dX8_density_8 rfl (lv_at hl 0 rfl) ?_
  refine lv_if_ne (tgt := 16) hx hb dX8_density_9 (by decide) (fun c9 => ?_) (fun c9 => ?_)
  · refine lv_dconst1 hx hb dX8_density_16 ?_
    refine lv_aload_n hx hb dX8_density_17 rfl (lv_at hl 1 rfl) ?_
    refine hw_get hx hb hts hown hk hI fd_X8_27 h0 rfl dX8_density_18 ?_
    refine hw_get hx hb hts hown hk hI fd_X8_50 h3 rfl dX8_density_21 ?_
    refine lv_aload_n hx hb dX8_density_24 rfl (lv_at hl 1 rfl) ?_
    refine hw_get hx hb hts hown hk hI fd_X8_27 h0 rfl dX8_density_25 ?_
    refine hw_get hx hb hts hown hk hI fd_X8_53 h3 rfl dX8_density_28 ?_
    refine lv_iadd hx hb dX8_density_31 ?_
    refine lv_i2d hx hb dX8_density_32 ?_
    refine lv_iload_n hx hb dX8_density_33 rfl (lv_at hl 0 rfl) ?_
    refine lv_i2d hx hb dX8_density_34 ?_
    refine lv_ddiv hx hb dX8_density_35 (hf_quo _ c9) ?_
    refine lv_dsub hx hb dX8_density_36 (hf_den _ c9) ?_
    exact hret hI (⟨by unfold hb_dens; rw [if_neg c9], rfl⟩) (Nat.le_of_ble_eq_true rfl) (Nat.le_of_ble_eq_true rfl) dX8_density_37
  · refine lv_dconst0 hx hb dX8_density_12 ?_
    refine lv_goto (tgt := 37) hx hb dX8_density_13 (by decide) ?_
    exact hret hI (⟨by unfold hb_dens; rw [if_pos c9], rfl⟩) (Nat.le_of_ble_eq_true rfl) (Nat.le_of_ble_eq_true rfl) dX8_density_37
