theorem fp_X5_11 : hw_FP RX5 11 6 0 (.array (.object "MeltPool$Piece")) true := ⟨RX5, TX5, 9, "MeltPool", tyX5, rfl, by decide, iw_X5, (hw_win (w := .fieldLink RX5 11 "MeltPool" (TX5 0).2.1 (TX5 0).2.2.1) (by decide +kernel) (by decide +kernel)), Or.inl rfl, tyX5_ok, nmX5, rfl, (fun _ => by decide +kernel), by decide +kernel⟩
theorem fp_X5_17 : hw_FP RX5 17 6 1 (.array (.object "MeltPool$Powder")) true := ⟨RX5, TX5, 9, "MeltPool", tyX5, rfl, by decide, iw_X5, (hw_win (w := .fieldLink RX5 17 "MeltPool" (TX5 1).2.1 (TX5 1).2.2.1) (by decide +kernel) (by decide +kernel)), Or.inl rfl, tyX5_ok, nmX5, rfl, (fun _ => by decide +kernel), by decide +kernel⟩
theorem fp_X5_23 : hw_FP RX5 23 6 2 (.array (.object "MeltPool$Machine")) true := ⟨RX5, TX5, 9, "MeltPool", tyX5, rfl, by decide, iw_X5, (hw_win (w := .fieldLink RX5 23 "MeltPool" (TX5 2).2.1 (TX5 2).2.2.1) (by decide +kernel) (by decide +kernel)), Or.inl rfl, tyX5_ok, nmX5, rfl, (fun _ => by decide +kernel), by decide +kernel⟩
theorem fn_X5_27 : hw_FN RX5 27 5 3 [.null, .null, .null] := ⟨RX4, TX4, tyX4, rfl, iw_X4, tyX4_ok, (hw_win (w := .classLink RX5 27 RX4) (by decide +kernel) (by decide +kernel)), (hw_win (w := .instantiable RX4 3) (by decide +kernel) (by decide +kernel)), (hw_win (w := .initialized RX4) (by decide +kernel) (by decide +kernel)), fun j hj => by rcases (show j = 0 ∨ j = 1 ∨ j = 2 by omega) with rfl | rfl | rfl <;> rfl⟩
theorem cn_X5_29 : hw_CIN RX5 29 yX4_init "MeltPool" cX4_init 1 0 := ⟨cb_X4_init _ _, by decide +kernel, (hw_win (w := .instanceMethod yX4_init) (by decide +kernel) (by decide +kernel)), rfl⟩
theorem fp_X5_30 : hw_FP RX5 30 6 7 (.object "MeltPool$Solid") true := ⟨RX5, TX5, 9, "MeltPool", tyX5, rfl, by decide, iw_X5, (hw_win (w := .fieldLink RX5 30 "MeltPool" (TX5 7).2.1 (TX5 7).2.2.1) (by decide +kernel) (by decide +kernel)), Or.inl rfl, tyX5_ok, nmX5, rfl, (fun _ => by decide +kernel), by decide +kernel⟩
theorem fn_X5_34 : hw_FN RX5 34 2 3 [.null, .int 0, .int 0] := ⟨RX1, TX1, tyX1, rfl, iw_X1, tyX1_ok, (hw_win (w := .classLink RX5 34 RX1) (by decide +kernel) (by decide +kernel)), (hw_win (w := .instantiable RX1 3) (by decide +kernel) (by decide +kernel)), (hw_win (w := .initialized RX1) (by decide +kernel) (by decide +kernel)), fun j hj => by rcases (show j = 0 ∨ j = 1 ∨ j = 2 by omega) with rfl | rfl | rfl <;> rfl⟩
theorem cn_X5_36 : hw_CIN RX5 36 yX1_init "MeltPool" cX1_init 1 0 := ⟨cb_X1_init _ _, by decide +kernel, (hw_win (w := .instanceMethod yX1_init) (by decide +kernel) (by decide +kernel)), rfl⟩
theorem fp_X5_37 : hw_FP RX5 37 6 8 (.object "MeltPool$Melt") true := ⟨RX5, TX5, 9, "MeltPool", tyX5, rfl, by decide, iw_X5, (hw_win (w := .fieldLink RX5 37 "MeltPool" (TX5 8).2.1 (TX5 8).2.2.1) (by decide +kernel) (by decide +kernel)), Or.inl rfl, tyX5_ok, nmX5, rfl, (fun _ => by decide +kernel), by decide +kernel⟩
theorem fn_X5_21 : hw_FN RX5 21 1 7 [.int 0, .int 0, .null, .int 0, .null, .null, .int 0] := ⟨RX0, TX0, tyX0, rfl, iw_X0, tyX0_ok, (hw_win (w := .classLink RX5 21 RX0) (by decide +kernel) (by decide +kernel)), (hw_win (w := .instantiable RX0 7) (by decide +kernel) (by decide +kernel)), (hw_win (w := .initialized RX0) (by decide +kernel) (by decide +kernel)), fun j hj => by rcases (show j = 0 ∨ j = 1 ∨ j = 2 ∨ j = 3 ∨ j = 4 ∨ j = 5 ∨ j = 6 by omega) with rfl | rfl | rfl | rfl | rfl | rfl | rfl <;> rfl⟩
theorem cb_X0_init (own : String) (index : Nat) : hw_CB own index yX0_init cX0_init 2 none 1 := ⟨⟨by decide +kernel, by decide +kernel, by decide +kernel⟩, (hw_win (w := .code yX0_init cX0_init 2 none) (by decide +kernel) (by decide +kernel)), (hw_win (w := .initialized yX0_init.cls) (by decide +kernel) (by decide +kernel))⟩
theorem ci_X5_45 : hw_CI RX5 45 yX0_init cX0_init 2 1 := ⟨cb_X0_init _ _, (hw_win (w := .methodLink RX5 45 yX0_init) (by decide +kernel) (by decide +kernel)), (hw_win (w := .instanceMethod yX0_init) (by decide +kernel) (by decide +kernel)), rfl⟩
theorem fn_X5_15 : hw_FN RX5 15 4 6 [.int 0, .int 0, .int 0, .int 0, .int 0, .int 0] := ⟨RX3, TX3, tyX3, rfl, iw_X3, tyX3_ok, (hw_win (w := .classLink RX5 15 RX3) (by decide +kernel) (by decide +kernel)), (hw_win (w := .instantiable RX3 6) (by decide +kernel) (by decide +kernel)), (hw_win (w := .initialized RX3) (by decide +kernel) (by decide +kernel)), fun j hj => by rcases (show j = 0 ∨ j = 1 ∨ j = 2 ∨ j = 3 ∨ j = 4 ∨ j = 5 by omega) with rfl | rfl | rfl | rfl | rfl | rfl <;> rfl⟩
theorem cb_X3_init (own : String) (index : Nat) : hw_CB own index yX3_init cX3_init 2 none 1 := ⟨⟨by decide +kernel, by decide +kernel, by decide +kernel⟩, (hw_win (w := .code yX3_init cX3_init 2 none) (by decide +kernel) (by decide +kernel)), (hw_win (w := .initialized yX3_init.cls) (by decide +kernel) (by decide +kernel))⟩
theorem ci_X5_44 : hw_CI RX5 44 yX3_init cX3_init 2 1 := ⟨cb_X3_init _ _, (hw_win (w := .methodLink RX5 44 yX3_init) (by decide +kernel) (by decide +kernel)), (hw_win (w := .instanceMethod yX3_init) (by decide +kernel) (by decide +kernel)), rfl⟩
theorem fn_X5_9 : hw_FN RX5 9 3 13 [.int 0, .null, .null, .int 0, .int 0, .double 0, .int 0, .null, .int 0, .int 0, .int 0, .int 0, .int 0] := ⟨RX2, TX2, tyX2, rfl, iw_X2, tyX2_ok, (hw_win (w := .classLink RX5 9 RX2) (by decide +kernel) (by decide +kernel)), (hw_win (w := .instantiable RX2 13) (by decide +kernel) (by decide +kernel)), (hw_win (w := .initialized RX2) (by decide +kernel) (by decide +kernel)), fun j hj => by rcases (show j = 0 ∨ j = 1 ∨ j = 2 ∨ j = 3 ∨ j = 4 ∨ j = 5 ∨ j = 6 ∨ j = 7 ∨ j = 8 ∨ j = 9 ∨ j = 10 ∨ j = 11 ∨ j = 12 by omega) with rfl | rfl | rfl | rfl | rfl | rfl | rfl | rfl | rfl | rfl | rfl | rfl | rfl <;> rfl⟩
theorem cb_X2_init (own : String) (index : Nat) : hw_CB own index yX2_init cX2_init 2 none 1 := ⟨⟨by decide +kernel, by decide +kernel, by decide +kernel⟩, (hw_win (w := .code yX2_init cX2_init 2 none) (by decide +kernel) (by decide +kernel)), (hw_win (w := .initialized yX2_init.cls) (by decide +kernel) (by decide +kernel))⟩
theorem ci_X5_41 : hw_CI RX5 41 yX2_init cX2_init 2 1 := ⟨cb_X2_init _ _, (hw_win (w := .methodLink RX5 41 yX2_init) (by decide +kernel) (by decide +kernel)), (hw_win (w := .instanceMethod yX2_init) (by decide +kernel) (by decide +kernel)), rfl⟩
set_option maxHeartbeats 4000000 in
set_option maxRecDepth 100000 in
theorem m_X5_init (l : Launch) (Z : hw_Z) (M : hw_M) (a : Nat) (h0 : M a = hw_ob 6 [.null, .null, .null, .int 0, .int 0, .int 0, .int 0, .null, .null]) : Met l yX5_init (hw_m yX5_init cX5_init 2 none) ({ frames := 8, cells := 60, slots := 700, locals := 260 } : Room) (va_Pc [.ref a] (hw_P Z M)) (hw_Qv Z (fun M' => ∃ ad : hp_ad, ad 0 0 = a ∧ hp_ok Z (fun x => M x ≠ none ∧ x ≠ a) M' ad hs_0 hp_T0 ∧ ∀ x, M x ≠ none → x ≠ a → M' x = M x)) 60 700 (hw_A Z) := by
  refine hw_ofv (by decide +kernel) rfl (Nat.le_of_ble_eq_true rfl) ?_
  intro p e s m below meth c ls Q hx hb hml hown hts hk hnm hI hl hret
  refine lv_aload_n hx hb dX5_init_0 rfl (lv_at hl 0 rfl) ?_
  refine W.objInit hx hb hown (hts _ (hw_win (w := .methodLink RX5 1 objectInit) (by decide +kernel) (by decide +kernel))) (hts _ (hw_win (w := .instanceMethod objectInit) (by decide +kernel) (by decide +kernel))) (hts _ (hw_win (w := .code objectInit ⟨#[0xb1]⟩ 1 none) (by decide +kernel) (by decide +kernel))) rfl (by rw [hml]; exact hl.1) rfl dX5_init_1 (Nat.le_of_ble_eq_true rfl) (Nat.le_of_ble_eq_true rfl) ?_
  refine W.eq (g2 := F0 m 4 ls []) rfl ?_
  refine lv_aload_n hx hb dX5_init_4 rfl (lv_at hl 0 rfl) ?_
  refine lv_iconst (v := nI 4) hx hb dX5_init_5 (by decide) ?_
  refine hw_newq hx hb hts hown hk hI (hw_win (w := .classLink RX5 9 "MeltPool$Piece") (by decide +kernel) (by decide +kernel)) (by decide +kernel) 3 rfl rfl (by decide) (Nat.le_of_ble_eq_true rfl) (Nat.le_of_ble_eq_true rfl) dX5_init_6 (fun q6 H hq6 hI => ?_)
  have b_q6 : M q6 = none := hw_alv.n (hw_alv_r M) hq6
  refine hw_putF (fs' := [.ref q6, .null, .null, .int 0, .int 0, .int 0, .int 0, .null, .null]) hx hb hts hown hnm hk hI fp_X5_11 (hw_up h0 (hw_nn h0 hq6)) (Nat.le_of_ble_eq_true rfl) rfl rfl rfl dX5_init_9 (fun H locs hI => ?_)
  refine lv_aload_n hx hb dX5_init_12 rfl (lv_at hl 0 rfl) ?_
  refine lv_bipush (v := nI 6) hx hb dX5_init_13 (by decide) ?_
  refine hw_newq hx hb hts hown hk hI (hw_win (w := .classLink RX5 15 "MeltPool$Powder") (by decide +kernel) (by decide +kernel)) (by decide +kernel) 4 rfl rfl (by decide) (Nat.le_of_ble_eq_true rfl) (Nat.le_of_ble_eq_true rfl) dX5_init_15 (fun q15 H hq15 hI => ?_)
  have b_q15 : M q15 = none := hw_alv.n (hw_alv_u (hw_alv_u (hw_alv_r M))) hq15
  refine hw_putF (fs' := [.ref q6, .ref q15, .null, .int 0, .int 0, .int 0, .int 0, .null, .null]) hx hb hts hown hnm hk hI fp_X5_17 (hw_up (hw_us _ _ _) (hw_nn (hw_us _ _ _) hq15)) (Nat.le_of_ble_eq_true rfl) rfl rfl rfl dX5_init_18 (fun H locs hI => ?_)
  refine lv_aload_n hx hb dX5_init_21 rfl (lv_at hl 0 rfl) ?_
  refine lv_iconst (v := nI 2) hx hb dX5_init_22 (by decide) ?_
  refine hw_newq hx hb hts hown hk hI (hw_win (w := .classLink RX5 21 "MeltPool$Machine") (by decide +kernel) (by decide +kernel)) (by decide +kernel) 5 rfl rfl (by decide) (Nat.le_of_ble_eq_true rfl) (Nat.le_of_ble_eq_true rfl) dX5_init_23 (fun q23 H hq23 hI => ?_)
  have b_q23 : M q23 = none := hw_alv.n (hw_alv_u (hw_alv_u (hw_alv_u (hw_alv_u (hw_alv_r M))))) hq23
  refine hw_putF (fs' := [.ref q6, .ref q15, .ref q23, .int 0, .int 0, .int 0, .int 0, .null, .null]) hx hb hts hown hnm hk hI fp_X5_23 (hw_up (hw_us _ _ _) (hw_nn (hw_us _ _ _) hq23)) (Nat.le_of_ble_eq_true rfl) rfl rfl rfl dX5_init_26 (fun H locs hI => ?_)
  refine lv_aload_n hx hb dX5_init_29 rfl (lv_at hl 0 rfl) ?_
  refine hw_new hx hb hts hown hk hI fn_X5_27 (Nat.le_of_ble_eq_true rfl) (Nat.le_of_ble_eq_true rfl) dX5_init_30 (fun q30 H hq30 hI => ?_)
  have b_q30 : M q30 = none := hw_alv.n (hw_alv_u (hw_alv_u (hw_alv_u (hw_alv_u (hw_alv_u (hw_alv_u (hw_alv_r M))))))) hq30
  refine lv_dup hx hb dX5_init_33 rfl ?_
  refine hw_cv hI (hw_rIN hx hb hml hown hts hk hI (m_X4_init l Z (va_up (va_up (va_up (va_up (va_up (va_up (va_up M q6 (hw_ar Z 3 4 (fun _ => none))) a (hw_ob 6 [.ref q6, .null, .null, .int 0, .int 0, .int 0, .int 0, .null, .null])) q15 (hw_ar Z 4 6 (fun _ => none))) a (hw_ob 6 [.ref q6, .ref q15, .null, .int 0, .int 0, .int 0, .int 0, .null, .null])) q23 (hw_ar Z 5 2 (fun _ => none))) a (hw_ob 6 [.ref q6, .ref q15, .ref q23, .int 0, .int 0, .int 0, .int 0, .null, .null])) q30 (hw_ob 5 [.null, .null, .null])) q30 (hw_us _ _ _)) cn_X5_29 ⟨rfl, rfl⟩ ⟨(Nat.le_of_ble_eq_true rfl), (Nat.le_of_ble_eq_true rfl)⟩ rfl hl.1 rfl (Nat.le_of_ble_eq_true rfl) ⟨(Nat.le_of_ble_eq_true rfl), (Nat.le_of_ble_eq_true rfl)⟩ dX5_init_34) (fun M34 H locs hR hI => ?_)
  obtain ⟨ca_34, ha_34, sa_34, ⟨hn_ca_34, hn_ha_34, hn_sa_34⟩, hd34, ⟨he_ca_34, he_ha_34, he_sa_34⟩, ha34, hF34⟩ := hR
  have f34_a := (hF34 _ (hw_sn (hw_up (hw_us _ _ _) (hw_nn (hw_us _ _ _) hq30))) (hw_nn (hw_us _ _ _) hq30)).trans (hw_up (hw_us _ _ _) (hw_nn (hw_us _ _ _) hq30))
  have g34_a_ca_34 : a ≠ ca_34 := hw_xn (hw_sn (hw_up (hw_us _ _ _) (hw_nn (hw_us _ _ _) hq30))) hn_ca_34
  have g34_a_ha_34 : a ≠ ha_34 := hw_xn (hw_sn (hw_up (hw_us _ _ _) (hw_nn (hw_us _ _ _) hq30))) hn_ha_34
  have g34_a_sa_34 : a ≠ sa_34 := hw_xn (hw_sn (hw_up (hw_us _ _ _) (hw_nn (hw_us _ _ _) hq30))) hn_sa_34
  have f34_q6 := (hF34 _ (hw_sn (hw_up (hw_up (hw_up (hw_up (hw_up (hw_up (hw_us _ _ _) (Ne.symm (hw_nn h0 hq6))) (hw_nn (hw_up (hw_us _ _ _) (Ne.symm (hw_nn h0 hq6))) hq15)) (Ne.symm (hw_nn h0 hq6))) (hw_nn (hw_up (hw_up (hw_up (hw_us _ _ _) (Ne.symm (hw_nn h0 hq6))) (hw_nn (hw_up (hw_us _ _ _) (Ne.symm (hw_nn h0 hq6))) hq15)) (Ne.symm (hw_nn h0 hq6))) hq23)) (Ne.symm (hw_nn h0 hq6))) (hw_nn (hw_up (hw_up (hw_up (hw_up (hw_up (hw_us _ _ _) (Ne.symm (hw_nn h0 hq6))) (hw_nn (hw_up (hw_us _ _ _) (Ne.symm (hw_nn h0 hq6))) hq15)) (Ne.symm (hw_nn h0 hq6))) (hw_nn (hw_up (hw_up (hw_up (hw_us _ _ _) (Ne.symm (hw_nn h0 hq6))) (hw_nn (hw_up (hw_us _ _ _) (Ne.symm (hw_nn h0 hq6))) hq15)) (Ne.symm (hw_nn h0 hq6))) hq23)) (Ne.symm (hw_nn h0 hq6))) hq30))) (hw_nn (hw_up (hw_up (hw_up (hw_up (hw_up (hw_us _ _ _) (Ne.symm (hw_nn h0 hq6))) (hw_nn (hw_up (hw_us _ _ _) (Ne.symm (hw_nn h0 hq6))) hq15)) (Ne.symm (hw_nn h0 hq6))) (hw_nn (hw_up (hw_up (hw_up (hw_us _ _ _) (Ne.symm (hw_nn h0 hq6))) (hw_nn (hw_up (hw_us _ _ _) (Ne.symm (hw_nn h0 hq6))) hq15)) (Ne.symm (hw_nn h0 hq6))) hq23)) (Ne.symm (hw_nn h0 hq6))) hq30)).trans (hw_up (hw_up (hw_up (hw_up (hw_up (hw_up (hw_us _ _ _) (Ne.symm (hw_nn h0 hq6))) (hw_nn (hw_up (hw_us _ _ _) (Ne.symm (hw_nn h0 hq6))) hq15)) (Ne.symm (hw_nn h0 hq6))) (hw_nn (hw_up (hw_up (hw_up (hw_us _ _ _) (Ne.symm (hw_nn h0 hq6))) (hw_nn (hw_up (hw_us _ _ _) (Ne.symm (hw_nn h0 hq6))) hq15)) (Ne.symm (hw_nn h0 hq6))) hq23)) (Ne.symm (hw_nn h0 hq6))) (hw_nn (hw_up (hw_up (hw_up (hw_up (hw_up (hw_us _ _ _) (Ne.symm (hw_nn h0 hq6))) (hw_nn (hw_up (hw_us _ _ _) (Ne.symm (hw_nn h0 hq6))) hq15)) (Ne.symm (hw_nn h0 hq6))) (hw_nn (hw_up (hw_up (hw_up (hw_us _ _ _) (Ne.symm (hw_nn h0 hq6))) (hw_nn (hw_up (hw_us _ _ _) (Ne.symm (hw_nn h0 hq6))) hq15)) (Ne.symm (hw_nn h0 hq6))) hq23)) (Ne.symm (hw_nn h0 hq6))) hq30))
  have g34_q6_ca_34 : q6 ≠ ca_34 := hw_xn (hw_sn (hw_up (hw_up (hw_up (hw_up (hw_up (hw_up (hw_us _ _ _) (Ne.symm (hw_nn h0 hq6))) (hw_nn (hw_up (hw_us _ _ _) (Ne.symm (hw_nn h0 hq6))) hq15)) (Ne.symm (hw_nn h0 hq6))) (hw_nn (hw_up (hw_up (hw_up (hw_us _ _ _) (Ne.symm (hw_nn h0 hq6))) (hw_nn (hw_up (hw_us _ _ _) (Ne.symm (hw_nn h0 hq6))) hq15)) (Ne.symm (hw_nn h0 hq6))) hq23)) (Ne.symm (hw_nn h0 hq6))) (hw_nn (hw_up (hw_up (hw_up (hw_up (hw_up (hw_us _ _ _) (Ne.symm (hw_nn h0 hq6))) (hw_nn (hw_up (hw_us _ _ _) (Ne.symm (hw_nn h0 hq6))) hq15)) (Ne.symm (hw_nn h0 hq6))) (hw_nn (hw_up (hw_up (hw_up (hw_us _ _ _) (Ne.symm (hw_nn h0 hq6))) (hw_nn (hw_up (hw_us _ _ _) (Ne.symm (hw_nn h0 hq6))) hq15)) (Ne.symm (hw_nn h0 hq6))) hq23)) (Ne.symm (hw_nn h0 hq6))) hq30))) hn_ca_34
  have g34_q6_ha_34 : q6 ≠ ha_34 := hw_xn (hw_sn (hw_up (hw_up (hw_up (hw_up (hw_up (hw_up (hw_us _ _ _) (Ne.symm (hw_nn h0 hq6))) (hw_nn (hw_up (hw_us _ _ _) (Ne.symm (hw_nn h0 hq6))) hq15)) (Ne.symm (hw_nn h0 hq6))) (hw_nn (hw_up (hw_up (hw_up (hw_us _ _ _) (Ne.symm (hw_nn h0 hq6))) (hw_nn (hw_up (hw_us _ _ _) (Ne.symm (hw_nn h0 hq6))) hq15)) (Ne.symm (hw_nn h0 hq6))) hq23)) (Ne.symm (hw_nn h0 hq6))) (hw_nn (hw_up (hw_up (hw_up (hw_up (hw_up (hw_us _ _ _) (Ne.symm (hw_nn h0 hq6))) (hw_nn (hw_up (hw_us _ _ _) (Ne.symm (hw_nn h0 hq6))) hq15)) (Ne.symm (hw_nn h0 hq6))) (hw_nn (hw_up (hw_up (hw_up (hw_us _ _ _) (Ne.symm (hw_nn h0 hq6))) (hw_nn (hw_up (hw_us _ _ _) (Ne.symm (hw_nn h0 hq6))) hq15)) (Ne.symm (hw_nn h0 hq6))) hq23)) (Ne.symm (hw_nn h0 hq6))) hq30))) hn_ha_34
  have g34_q6_sa_34 : q6 ≠ sa_34 := hw_xn (hw_sn (hw_up (hw_up (hw_up (hw_up (hw_up (hw_up (hw_us _ _ _) (Ne.symm (hw_nn h0 hq6))) (hw_nn (hw_up (hw_us _ _ _) (Ne.symm (hw_nn h0 hq6))) hq15)) (Ne.symm (hw_nn h0 hq6))) (hw_nn (hw_up (hw_up (hw_up (hw_us _ _ _) (Ne.symm (hw_nn h0 hq6))) (hw_nn (hw_up (hw_us _ _ _) (Ne.symm (hw_nn h0 hq6))) hq15)) (Ne.symm (hw_nn h0 hq6))) hq23)) (Ne.symm (hw_nn h0 hq6))) (hw_nn (hw_up (hw_up (hw_up (hw_up (hw_up (hw_us _ _ _) (Ne.symm (hw_nn h0 hq6))) (hw_nn (hw_up (hw_us _ _ _) (Ne.symm (hw_nn h0 hq6))) hq15)) (Ne.symm (hw_nn h0 hq6))) (hw_nn (hw_up (hw_up (hw_up (hw_us _ _ _) (Ne.symm (hw_nn h0 hq6))) (hw_nn (hw_up (hw_us _ _ _) (Ne.symm (hw_nn h0 hq6))) hq15)) (Ne.symm (hw_nn h0 hq6))) hq23)) (Ne.symm (hw_nn h0 hq6))) hq30))) hn_sa_34
  have f34_q15 := (hF34 _ (hw_sn (hw_up (hw_up (hw_up (hw_up (hw_us _ _ _) (Ne.symm (hw_nn (hw_us _ _ _) hq15))) (hw_nn (hw_up (hw_us _ _ _) (Ne.symm (hw_nn (hw_us _ _ _) hq15))) hq23)) (Ne.symm (hw_nn (hw_us _ _ _) hq15))) (hw_nn (hw_up (hw_up (hw_up (hw_us _ _ _) (Ne.symm (hw_nn (hw_us _ _ _) hq15))) (hw_nn (hw_up (hw_us _ _ _) (Ne.symm (hw_nn (hw_us _ _ _) hq15))) hq23)) (Ne.symm (hw_nn (hw_us _ _ _) hq15))) hq30))) (hw_nn (hw_up (hw_up (hw_up (hw_us _ _ _) (Ne.symm (hw_nn (hw_us _ _ _) hq15))) (hw_nn (hw_up (hw_us _ _ _) (Ne.symm (hw_nn (hw_us _ _ _) hq15))) hq23)) (Ne.symm (hw_nn (hw_us _ _ _) hq15))) hq30)).trans (hw_up (hw_up (hw_up (hw_up (hw_us _ _ _) (Ne.symm (hw_nn (hw_us _ _ _) hq15))) (hw_nn (hw_up (hw_us _ _ _) (Ne.symm (hw_nn (hw_us _ _ _) hq15))) hq23)) (Ne.symm (hw_nn (hw_us _ _ _) hq15))) (hw_nn (hw_up (hw_up (hw_up (hw_us _ _ _) (Ne.symm (hw_nn (hw_us _ _ _) hq15))) (hw_nn (hw_up (hw_us _ _ _) (Ne.symm (hw_nn (hw_us _ _ _) hq15))) hq23)) (Ne.symm (hw_nn (hw_us _ _ _) hq15))) hq30))
  have g34_q15_ca_34 : q15 ≠ ca_34 := hw_xn (hw_sn (hw_up (hw_up (hw_up (hw_up (hw_us _ _ _) (Ne.symm (hw_nn (hw_us _ _ _) hq15))) (hw_nn (hw_up (hw_us _ _ _) (Ne.symm (hw_nn (hw_us _ _ _) hq15))) hq23)) (Ne.symm (hw_nn (hw_us _ _ _) hq15))) (hw_nn (hw_up (hw_up (hw_up (hw_us _ _ _) (Ne.symm (hw_nn (hw_us _ _ _) hq15))) (hw_nn (hw_up (hw_us _ _ _) (Ne.symm (hw_nn (hw_us _ _ _) hq15))) hq23)) (Ne.symm (hw_nn (hw_us _ _ _) hq15))) hq30))) hn_ca_34
  have g34_q15_ha_34 : q15 ≠ ha_34 := hw_xn (hw_sn (hw_up (hw_up (hw_up (hw_up (hw_us _ _ _) (Ne.symm (hw_nn (hw_us _ _ _) hq15))) (hw_nn (hw_up (hw_us _ _ _) (Ne.symm (hw_nn (hw_us _ _ _) hq15))) hq23)) (Ne.symm (hw_nn (hw_us _ _ _) hq15))) (hw_nn (hw_up (hw_up (hw_up (hw_us _ _ _) (Ne.symm (hw_nn (hw_us _ _ _) hq15))) (hw_nn (hw_up (hw_us _ _ _) (Ne.symm (hw_nn (hw_us _ _ _) hq15))) hq23)) (Ne.symm (hw_nn (hw_us _ _ _) hq15))) hq30))) hn_ha_34
  have g34_q15_sa_34 : q15 ≠ sa_34 := hw_xn (hw_sn (hw_up (hw_up (hw_up (hw_up (hw_us _ _ _) (Ne.symm (hw_nn (hw_us _ _ _) hq15))) (hw_nn (hw_up (hw_us _ _ _) (Ne.symm (hw_nn (hw_us _ _ _) hq15))) hq23)) (Ne.symm (hw_nn (hw_us _ _ _) hq15))) (hw_nn (hw_up (hw_up (hw_up (hw_us _ _ _) (Ne.symm (hw_nn (hw_us _ _ _) hq15))) (hw_nn (hw_up (hw_us _ _ _) (Ne.symm (hw_nn (hw_us _ _ _) hq15))) hq23)) (Ne.symm (hw_nn (hw_us _ _ _) hq15))) hq30))) hn_sa_34
  have f34_q23 := (hF34 _ (hw_sn (hw_up (hw_up (hw_us _ _ _) (Ne.symm (hw_nn (hw_us _ _ _) hq23))) (hw_nn (hw_up (hw_us _ _ _) (Ne.symm (hw_nn (hw_us _ _ _) hq23))) hq30))) (hw_nn (hw_up (hw_us _ _ _) (Ne.symm (hw_nn (hw_us _ _ _) hq23))) hq30)).trans (hw_up (hw_up (hw_us _ _ _) (Ne.symm (hw_nn (hw_us _ _ _) hq23))) (hw_nn (hw_up (hw_us _ _ _) (Ne.symm (hw_nn (hw_us _ _ _) hq23))) hq30))
  have g34_q23_ca_34 : q23 ≠ ca_34 := hw_xn (hw_sn (hw_up (hw_up (hw_us _ _ _) (Ne.symm (hw_nn (hw_us _ _ _) hq23))) (hw_nn (hw_up (hw_us _ _ _) (Ne.symm (hw_nn (hw_us _ _ _) hq23))) hq30))) hn_ca_34
  have g34_q23_ha_34 : q23 ≠ ha_34 := hw_xn (hw_sn (hw_up (hw_up (hw_us _ _ _) (Ne.symm (hw_nn (hw_us _ _ _) hq23))) (hw_nn (hw_up (hw_us _ _ _) (Ne.symm (hw_nn (hw_us _ _ _) hq23))) hq30))) hn_ha_34
  have g34_q23_sa_34 : q23 ≠ sa_34 := hw_xn (hw_sn (hw_up (hw_up (hw_us _ _ _) (Ne.symm (hw_nn (hw_us _ _ _) hq23))) (hw_nn (hw_up (hw_us _ _ _) (Ne.symm (hw_nn (hw_us _ _ _) hq23))) hq30))) hn_sa_34
  have g34_q30_ca_34 : q30 ≠ ca_34 := hw_xn (hw_sn (hw_us _ _ _)) hn_ca_34
  have g34_q30_ha_34 : q30 ≠ ha_34 := hw_xn (hw_sn (hw_us _ _ _)) hn_ha_34
  have g34_q30_sa_34 : q30 ≠ sa_34 := hw_xn (hw_sn (hw_us _ _ _)) hn_sa_34
  have b_ca_34 : M ca_34 = none := hw_alv.n (hw_alv_u (hw_alv_u (hw_alv_u (hw_alv_u (hw_alv_u (hw_alv_u (hw_alv_u (hw_alv_r M)))))))) hn_ca_34
  have b_ha_34 : M ha_34 = none := hw_alv.n (hw_alv_u (hw_alv_u (hw_alv_u (hw_alv_u (hw_alv_u (hw_alv_u (hw_alv_u (hw_alv_r M)))))))) hn_ha_34
  have b_sa_34 : M sa_34 = none := hw_alv.n (hw_alv_u (hw_alv_u (hw_alv_u (hw_alv_u (hw_alv_u (hw_alv_u (hw_alv_u (hw_alv_r M)))))))) hn_sa_34
  have al34 : hw_alv M M34 := hw_alv_F (hw_alv_u (hw_alv_u (hw_alv_u (hw_alv_u (hw_alv_u (hw_alv_u (hw_alv_u (hw_alv_r M)))))))) hF34 ha34
  have fr34 : ∀ x, M x ≠ none → x ≠ a → M34 x = M x := fun x hx hxa => by rw [hF34 x ((hw_alv_u (hw_alv_u (hw_alv_u (hw_alv_u (hw_alv_u (hw_alv_u (hw_alv_u (hw_alv_r M)))))))) x hx) (hw_xn hx b_q30), va_up_ne _ _ (hw_xn hx b_q30), va_up_ne _ _ hxa, va_up_ne _ _ (hw_xn hx b_q23), va_up_ne _ _ hxa, va_up_ne _ _ (hw_xn hx b_q15), va_up_ne _ _ hxa, va_up_ne _ _ (hw_xn hx b_q6)]
  refine hw_putF (fs' := [.ref q6, .ref q15, .ref q23, .int 0, .int 0, .int 0, .int 0, .ref q30, .null]) hx hb hts hown hnm hk hI fp_X5_30 f34_a (Nat.le_of_ble_eq_true rfl) rfl rfl rfl dX5_init_37 (fun H locs hI => ?_)
  refine lv_aload_n hx hb dX5_init_40 rfl (lv_at hl 0 rfl) ?_
  refine hw_new hx hb hts hown hk hI fn_X5_34 (Nat.le_of_ble_eq_true rfl) (Nat.le_of_ble_eq_true rfl) dX5_init_41 (fun q41 H hq41 hI => ?_)
  have b_q41 : M q41 = none := hw_alv.n (hw_alv_u al34) hq41
  refine lv_dup hx hb dX5_init_44 rfl ?_
  refine hw_cv hI (hw_rIN hx hb hml hown hts hk hI (m_X1_init l Z (va_up (va_up M34 a (hw_ob 6 [.ref q6, .ref q15, .ref q23, .int 0, .int 0, .int 0, .int 0, .ref q30, .null])) q41 (hw_ob 2 [.null, .int 0, .int 0])) q41 (hw_us _ _ _)) cn_X5_36 ⟨rfl, rfl⟩ ⟨(Nat.le_of_ble_eq_true rfl), (Nat.le_of_ble_eq_true rfl)⟩ rfl hl.1 rfl (Nat.le_of_ble_eq_true rfl) ⟨(Nat.le_of_ble_eq_true rfl), (Nat.le_of_ble_eq_true rfl)⟩ dX5_init_45) (fun M45 H locs hR hI => ?_)
  obtain ⟨wa_45, hn_wa_45, hd45, he_wa_45, ha45, hF45⟩ := hR
  have f45_a := (hF45 _ (hw_sn (hw_up (hw_us _ _ _) (hw_nn (hw_us _ _ _) hq41))) (hw_nn (hw_us _ _ _) hq41)).trans (hw_up (hw_us _ _ _) (hw_nn (hw_us _ _ _) hq41))
  have g45_a_wa_45 : a ≠ wa_45 := hw_xn (hw_sn (hw_up (hw_us _ _ _) (hw_nn (hw_us _ _ _) hq41))) hn_wa_45
  have f45_q6 := (hF45 _ (hw_sn (hw_up (hw_up f34_q6 (Ne.symm (hw_nn h0 hq6))) (hw_nn (hw_up f34_q6 (Ne.symm (hw_nn h0 hq6))) hq41))) (hw_nn (hw_up f34_q6 (Ne.symm (hw_nn h0 hq6))) hq41)).trans (hw_up (hw_up f34_q6 (Ne.symm (hw_nn h0 hq6))) (hw_nn (hw_up f34_q6 (Ne.symm (hw_nn h0 hq6))) hq41))
  have g45_q6_wa_45 : q6 ≠ wa_45 := hw_xn (hw_sn (hw_up (hw_up f34_q6 (Ne.symm (hw_nn h0 hq6))) (hw_nn (hw_up f34_q6 (Ne.symm (hw_nn h0 hq6))) hq41))) hn_wa_45
  have f45_q15 := (hF45 _ (hw_sn (hw_up (hw_up f34_q15 (Ne.symm (hw_nn (hw_us _ _ _) hq15))) (hw_nn (hw_up f34_q15 (Ne.symm (hw_nn (hw_us _ _ _) hq15))) hq41))) (hw_nn (hw_up f34_q15 (Ne.symm (hw_nn (hw_us _ _ _) hq15))) hq41)).trans (hw_up (hw_up f34_q15 (Ne.symm (hw_nn (hw_us _ _ _) hq15))) (hw_nn (hw_up f34_q15 (Ne.symm (hw_nn (hw_us _ _ _) hq15))) hq41))
  have g45_q15_wa_45 : q15 ≠ wa_45 := hw_xn (hw_sn (hw_up (hw_up f34_q15 (Ne.symm (hw_nn (hw_us _ _ _) hq15))) (hw_nn (hw_up f34_q15 (Ne.symm (hw_nn (hw_us _ _ _) hq15))) hq41))) hn_wa_45
  have f45_q23 := (hF45 _ (hw_sn (hw_up (hw_up f34_q23 (Ne.symm (hw_nn (hw_us _ _ _) hq23))) (hw_nn (hw_up f34_q23 (Ne.symm (hw_nn (hw_us _ _ _) hq23))) hq41))) (hw_nn (hw_up f34_q23 (Ne.symm (hw_nn (hw_us _ _ _) hq23))) hq41)).trans (hw_up (hw_up f34_q23 (Ne.symm (hw_nn (hw_us _ _ _) hq23))) (hw_nn (hw_up f34_q23 (Ne.symm (hw_nn (hw_us _ _ _) hq23))) hq41))
  have g45_q23_wa_45 : q23 ≠ wa_45 := hw_xn (hw_sn (hw_up (hw_up f34_q23 (Ne.symm (hw_nn (hw_us _ _ _) hq23))) (hw_nn (hw_up f34_q23 (Ne.symm (hw_nn (hw_us _ _ _) hq23))) hq41))) hn_wa_45
  have f45_q30 := (hF45 _ (hw_sn (hw_up (hw_up ha34 (Ne.symm (hw_nn (hw_us _ _ _) hq30))) (hw_nn (hw_up ha34 (Ne.symm (hw_nn (hw_us _ _ _) hq30))) hq41))) (hw_nn (hw_up ha34 (Ne.symm (hw_nn (hw_us _ _ _) hq30))) hq41)).trans (hw_up (hw_up ha34 (Ne.symm (hw_nn (hw_us _ _ _) hq30))) (hw_nn (hw_up ha34 (Ne.symm (hw_nn (hw_us _ _ _) hq30))) hq41))
  have g45_q30_wa_45 : q30 ≠ wa_45 := hw_xn (hw_sn (hw_up (hw_up ha34 (Ne.symm (hw_nn (hw_us _ _ _) hq30))) (hw_nn (hw_up ha34 (Ne.symm (hw_nn (hw_us _ _ _) hq30))) hq41))) hn_wa_45
  have f45_ca_34 := (hF45 _ (hw_sn (hw_up (hw_up he_ca_34 (Ne.symm g34_a_ca_34)) (hw_nn (hw_up he_ca_34 (Ne.symm g34_a_ca_34)) hq41))) (hw_nn (hw_up he_ca_34 (Ne.symm g34_a_ca_34)) hq41)).trans (hw_up (hw_up he_ca_34 (Ne.symm g34_a_ca_34)) (hw_nn (hw_up he_ca_34 (Ne.symm g34_a_ca_34)) hq41))
  have g45_ca_34_wa_45 : ca_34 ≠ wa_45 := hw_xn (hw_sn (hw_up (hw_up he_ca_34 (Ne.symm g34_a_ca_34)) (hw_nn (hw_up he_ca_34 (Ne.symm g34_a_ca_34)) hq41))) hn_wa_45
  have f45_ha_34 := (hF45 _ (hw_sn (hw_up (hw_up he_ha_34 (Ne.symm g34_a_ha_34)) (hw_nn (hw_up he_ha_34 (Ne.symm g34_a_ha_34)) hq41))) (hw_nn (hw_up he_ha_34 (Ne.symm g34_a_ha_34)) hq41)).trans (hw_up (hw_up he_ha_34 (Ne.symm g34_a_ha_34)) (hw_nn (hw_up he_ha_34 (Ne.symm g34_a_ha_34)) hq41))
  have g45_ha_34_wa_45 : ha_34 ≠ wa_45 := hw_xn (hw_sn (hw_up (hw_up he_ha_34 (Ne.symm g34_a_ha_34)) (hw_nn (hw_up he_ha_34 (Ne.symm g34_a_ha_34)) hq41))) hn_wa_45
  have f45_sa_34 := (hF45 _ (hw_sn (hw_up (hw_up he_sa_34 (Ne.symm g34_a_sa_34)) (hw_nn (hw_up he_sa_34 (Ne.symm g34_a_sa_34)) hq41))) (hw_nn (hw_up he_sa_34 (Ne.symm g34_a_sa_34)) hq41)).trans (hw_up (hw_up he_sa_34 (Ne.symm g34_a_sa_34)) (hw_nn (hw_up he_sa_34 (Ne.symm g34_a_sa_34)) hq41))
  have g45_sa_34_wa_45 : sa_34 ≠ wa_45 := hw_xn (hw_sn (hw_up (hw_up he_sa_34 (Ne.symm g34_a_sa_34)) (hw_nn (hw_up he_sa_34 (Ne.symm g34_a_sa_34)) hq41))) hn_wa_45
  have g45_q41_wa_45 : q41 ≠ wa_45 := hw_xn (hw_sn (hw_us _ _ _)) hn_wa_45
  have b_wa_45 : M wa_45 = none := hw_alv.n (hw_alv_u (hw_alv_u al34)) hn_wa_45
  have al45 : hw_alv M M45 := hw_alv_F (hw_alv_u (hw_alv_u al34)) hF45 ha45
  have fr45 : ∀ x, M x ≠ none → x ≠ a → M45 x = M x := fun x hx hxa => by rw [hF45 x ((hw_alv_u (hw_alv_u al34)) x hx) (hw_xn hx b_q41), va_up_ne _ _ (hw_xn hx b_q41), va_up_ne _ _ hxa, fr34 x hx hxa]
  refine hw_putF (fs' := [.ref q6, .ref q15, .ref q23, .int 0, .int 0, .int 0, .int 0, .ref q30, .ref q41]) hx hb hts hown hnm hk hI fp_X5_37 f45_a (Nat.le_of_ble_eq_true rfl) rfl rfl rfl dX5_init_48 (fun H locs hI => ?_)
  obtain ⟨Mb, hMb⟩ : ∃ X : hw_M, X = va_up M45 a (hw_ob 6 [.ref q6, .ref q15, .ref q23, .int 0, .int 0, .int 0, .int 0, .ref q30, .ref q41]) := ⟨_, rfl⟩
  replace hI := hI.eq hMb.symm
  have fMb_a : Mb a = hw_ob 6 [.ref q6, .ref q15, .ref q23, .int 0, .int 0, .int 0, .int 0, .ref q30, .ref q41] := by rw [hMb]; exact hw_us _ _ _
  have fMb_q6 : Mb q6 = hw_ar Z 3 4 (fun _ => none) := by rw [hMb]; exact hw_up f45_q6 (Ne.symm (hw_nn h0 hq6))
  have fMb_q15 : Mb q15 = hw_ar Z 4 6 (fun _ => none) := by rw [hMb]; exact hw_up f45_q15 (Ne.symm (hw_nn (hw_us _ _ _) hq15))
  have fMb_q23 : Mb q23 = hw_ar Z 5 2 (fun _ => none) := by rw [hMb]; exact hw_up f45_q23 (Ne.symm (hw_nn (hw_us _ _ _) hq23))
  have fMb_q30 : Mb q30 = hw_ob 5 [.ref ca_34, .ref ha_34, .ref sa_34] := by rw [hMb]; exact hw_up f45_q30 (Ne.symm (hw_nn (hw_us _ _ _) hq30))
  have fMb_ca_34 : Mb ca_34 = hw_al Z 8 (fun _ => 0) := by rw [hMb]; exact hw_up f45_ca_34 (Ne.symm g34_a_ca_34)
  have fMb_ha_34 : Mb ha_34 = hw_al Z 8 (fun _ => 0) := by rw [hMb]; exact hw_up f45_ha_34 (Ne.symm g34_a_ha_34)
  have fMb_sa_34 : Mb sa_34 = hw_al Z 8 (fun _ => 0) := by rw [hMb]; exact hw_up f45_sa_34 (Ne.symm g34_a_sa_34)
  have fMb_q41 : Mb q41 = hw_ob 2 [.ref wa_45, .int 0, .int 0] := by rw [hMb]; exact hw_up ha45 (Ne.symm (hw_nn (hw_us _ _ _) hq41))
  have fMb_wa_45 : Mb wa_45 = hw_ad Z 64 (fun _ => 0) := by rw [hMb]; exact hw_up he_wa_45 (Ne.symm g45_a_wa_45)
  have alMb : hw_alv M Mb := by rw [hMb]; exact (hw_alv_u al45)
  have frMb : ∀ x, M x ≠ none → x ≠ a → Mb x = M x := by rw [hMb]; exact fun x hx hxa => by rw [va_up_ne _ _ hxa, fr45 x hx hxa]
  refine lv_iconst (v := nI 0) hx hb dX5_init_51 (by decide) ?_
  refine lv_istore_n (lv' := [(1, .int (nI 0)), (0, .ref a)]) hx hb dX5_init_52 rfl hl (by decide) rfl (fun ls hl => ?_)
  refine hw_wr (cells1 := (7 * 0 + 9)) (slots1 := (115 * 0 + 106)) (by omega) (by omega) ?_
  suffices LP53 : ∀ v, v ≤ 4 → ∀ (Mp1 : hw_M) (adp : hp_ad) (hCp : hc_ok 1 7 Mb Mp1 adp v (hc_E Z)) (hQp : Mp1 q6 = hw_ar Z 3 4 (hc_f (adp 1) v)) (hFp : ∀ x, Mb x ≠ none → x ≠ q6 → Mp1 x = Mb x) (H : Heap) (locs : List Loc) (ls : Array Slot), hw_iv Z s (Mp1) H locs → lv_has ls 2 [(1, .int (nI v)), (0, .ref a)] → W p l e ({ frames := 8, cells := 60, slots := 700, locals := 260 } : Room) s m ([.ref a] : List Value).toArray below meth c H locs (7 * v + 9) (115 * v + 106) Q (F0 m 53 ls []) from LP53 0 (by omega) Mb (fun _ _ => 0) (hc_ok0 _ _ _ _ _ _) (fMb_q6.trans (congrArg (hw_ar Z 3 4) (hc_f0 _))) (fun _ _ _ => rfl) _ _ _ hI (lv_sub hl [0, 1] rfl)
  refine hw_loop ?_ (fun v hi53 ih53 => ?_)
  · intro Mp1 adp hCp hQp hFp H locs ls hI hl
    have gp_a := (hFp _ (hw_sn fMb_a) (hw_nn h0 hq6)).trans fMb_a
    have gp_q15 := (hFp _ (hw_sn fMb_q15) (Ne.symm (hw_nn (hw_up (hw_us _ _ _) (Ne.symm (hw_nn h0 hq6))) hq15))).trans fMb_q15
    have gp_q23 := (hFp _ (hw_sn fMb_q23) (Ne.symm (hw_nn (hw_up (hw_up (hw_up (hw_us _ _ _) (Ne.symm (hw_nn h0 hq6))) (hw_nn (hw_up (hw_us _ _ _) (Ne.symm (hw_nn h0 hq6))) hq15)) (Ne.symm (hw_nn h0 hq6))) hq23))).trans fMb_q23
    have gp_q30 := (hFp _ (hw_sn fMb_q30) (Ne.symm (hw_nn (hw_up (hw_up (hw_up (hw_up (hw_up (hw_us _ _ _) (Ne.symm (hw_nn h0 hq6))) (hw_nn (hw_up (hw_us _ _ _) (Ne.symm (hw_nn h0 hq6))) hq15)) (Ne.symm (hw_nn h0 hq6))) (hw_nn (hw_up (hw_up (hw_up (hw_us _ _ _) (Ne.symm (hw_nn h0 hq6))) (hw_nn (hw_up (hw_us _ _ _) (Ne.symm (hw_nn h0 hq6))) hq15)) (Ne.symm (hw_nn h0 hq6))) hq23)) (Ne.symm (hw_nn h0 hq6))) hq30))).trans fMb_q30
    have gp_ca_34 := (hFp _ (hw_sn fMb_ca_34) (Ne.symm g34_q6_ca_34)).trans fMb_ca_34
    have gp_ha_34 := (hFp _ (hw_sn fMb_ha_34) (Ne.symm g34_q6_ha_34)).trans fMb_ha_34
    have gp_sa_34 := (hFp _ (hw_sn fMb_sa_34) (Ne.symm g34_q6_sa_34)).trans fMb_sa_34
    have gp_q41 := (hFp _ (hw_sn fMb_q41) (Ne.symm (hw_nn (hw_up f34_q6 (Ne.symm (hw_nn h0 hq6))) hq41))).trans fMb_q41
    have gp_wa_45 := (hFp _ (hw_sn fMb_wa_45) (Ne.symm g45_q6_wa_45)).trans fMb_wa_45
    have abp : hw_alv Mb Mp1 := hw_alv_F (hw_alv_r Mb) hFp hQp
    have alp1 : hw_alv M Mp1 := fun x hx => abp x (alMb x hx)
    have frp1 : ∀ x, M x ≠ none → x ≠ a → Mp1 x = M x := fun x hx hxa => by rw [hFp x (alMb x hx) (hw_xn hx b_q6), frMb x hx hxa]
    refine lv_iload_n hx hb dX5_init_53 rfl (lv_at hl 0 rfl) ?_
    refine lv_iconst (v := nI 4) hx hb dX5_init_54 (by decide) ?_
    refine lv_icmp_ge (tgt := 78) hx hb dX5_init_55 (by decide) (fun _ => ?_) (fun hc => absurd (Int32.le_refl _) hc)
    replace hI := hI.exq (fun j => some (adp 1 j)) hQp (fun j hj => if_pos hj)
    obtain ⟨Mp, hMp⟩ : ∃ X : hw_M, X = va_up Mp1 q6 (hw_ar Z 3 4 (fun j => some (adp 1 j))) := ⟨_, rfl⟩
    replace hI := hI.eq hMp.symm
    have fMp_q6 : Mp q6 = hw_ar Z 3 4 (fun j => some (adp 1 j)) := by rw [hMp]; exact hw_us _ _ _
    have fMp_a : Mp a = hw_ob 6 [.ref q6, .ref q15, .ref q23, .int 0, .int 0, .int 0, .int 0, .ref q30, .ref q41] := by rw [hMp]; exact hw_up gp_a (hw_nn h0 hq6)
    have fMp_q15 : Mp q15 = hw_ar Z 4 6 (fun _ => none) := by rw [hMp]; exact hw_up gp_q15 (Ne.symm (hw_nn (hw_up (hw_us _ _ _) (Ne.symm (hw_nn h0 hq6))) hq15))
    have fMp_q23 : Mp q23 = hw_ar Z 5 2 (fun _ => none) := by rw [hMp]; exact hw_up gp_q23 (Ne.symm (hw_nn (hw_up (hw_up (hw_up (hw_us _ _ _) (Ne.symm (hw_nn h0 hq6))) (hw_nn (hw_up (hw_us _ _ _) (Ne.symm (hw_nn h0 hq6))) hq15)) (Ne.symm (hw_nn h0 hq6))) hq23))
    have fMp_q30 : Mp q30 = hw_ob 5 [.ref ca_34, .ref ha_34, .ref sa_34] := by rw [hMp]; exact hw_up gp_q30 (Ne.symm (hw_nn (hw_up (hw_up (hw_up (hw_up (hw_up (hw_us _ _ _) (Ne.symm (hw_nn h0 hq6))) (hw_nn (hw_up (hw_us _ _ _) (Ne.symm (hw_nn h0 hq6))) hq15)) (Ne.symm (hw_nn h0 hq6))) (hw_nn (hw_up (hw_up (hw_up (hw_us _ _ _) (Ne.symm (hw_nn h0 hq6))) (hw_nn (hw_up (hw_us _ _ _) (Ne.symm (hw_nn h0 hq6))) hq15)) (Ne.symm (hw_nn h0 hq6))) hq23)) (Ne.symm (hw_nn h0 hq6))) hq30))
    have fMp_ca_34 : Mp ca_34 = hw_al Z 8 (fun _ => 0) := by rw [hMp]; exact hw_up gp_ca_34 (Ne.symm g34_q6_ca_34)
    have fMp_ha_34 : Mp ha_34 = hw_al Z 8 (fun _ => 0) := by rw [hMp]; exact hw_up gp_ha_34 (Ne.symm g34_q6_ha_34)
    have fMp_sa_34 : Mp sa_34 = hw_al Z 8 (fun _ => 0) := by rw [hMp]; exact hw_up gp_sa_34 (Ne.symm g34_q6_sa_34)
    have fMp_q41 : Mp q41 = hw_ob 2 [.ref wa_45, .int 0, .int 0] := by rw [hMp]; exact hw_up gp_q41 (Ne.symm (hw_nn (hw_up f34_q6 (Ne.symm (hw_nn h0 hq6))) hq41))
    have fMp_wa_45 : Mp wa_45 = hw_ad Z 64 (fun _ => 0) := by rw [hMp]; exact hw_up gp_wa_45 (Ne.symm g45_q6_wa_45)
    have alMp : hw_alv M Mp := by rw [hMp]; exact (hw_alv_u alp1)
    have frMp : ∀ x, M x ≠ none → x ≠ a → Mp x = M x := by rw [hMp]; exact fun x hx hxa => by rw [va_up_ne _ _ (hw_xn hx b_q6), frp1 x hx hxa]
    have gCp := hc_full (by decide) hCp (hw_sn fMb_q6) hMp
    have gFp : ∀ x, Mb x ≠ none → x ≠ q6 → Mp x = Mb x := fun x hx hxa => by rw [hMp, va_up_ne _ _ hxa, hFp x hx hxa]
    refine lv_iconst (v := nI 0) hx hb dX5_init_78 (by decide) ?_
    refine lv_istore_n (lv' := [(1, .int (nI 0)), (0, .ref a)]) hx hb dX5_init_79 rfl hl (by decide) rfl (fun ls hl => ?_)
    refine hw_wr (cells1 := (1 * 0 + 37)) (slots1 := (6 * 0 + 566)) (by omega) (by omega) ?_
    suffices LP80 : ∀ v, v ≤ 6 → ∀ (Mw1 : hw_M) (adw : hp_ad) (hCw : hc_ok 8 8 Mp Mw1 adw v (hc_E Z)) (hQw : Mw1 q15 = hw_ar Z 4 6 (hc_f (adw 8) v)) (hFw : ∀ x, Mp x ≠ none → x ≠ q15 → Mw1 x = Mp x) (H : Heap) (locs : List Loc) (ls : Array Slot), hw_iv Z s (Mw1) H locs → lv_has ls 2 [(1, .int (nI v)), (0, .ref a)] → W p l e ({ frames := 8, cells := 60, slots := 700, locals := 260 } : Room) s m ([.ref a] : List Value).toArray below meth c H locs (1 * v + 37) (6 * v + 566) Q (F0 m 80 ls []) from LP80 0 (by omega) Mp (fun _ _ => 0) (hc_ok0 _ _ _ _ _ _) (fMp_q15.trans (congrArg (hw_ar Z 4 6) (hc_f0 _))) (fun _ _ _ => rfl) _ _ _ hI (lv_sub hl [0, 1] rfl)
    refine hw_loop ?_ (fun v hi80 ih80 => ?_)
    · intro Mw1 adw hCw hQw hFw H locs ls hI hl
      have gw_q6 := (hFw _ (hw_sn fMp_q6) (hw_nn (hw_up (hw_us _ _ _) (Ne.symm (hw_nn h0 hq6))) hq15)).trans fMp_q6
      have gw_a := (hFw _ (hw_sn fMp_a) (hw_nn (hw_us _ _ _) hq15)).trans fMp_a
      have gw_q23 := (hFw _ (hw_sn fMp_q23) (Ne.symm (hw_nn (hw_up (hw_us _ _ _) (Ne.symm (hw_nn (hw_us _ _ _) hq15))) hq23))).trans fMp_q23
      have gw_q30 := (hFw _ (hw_sn fMp_q30) (Ne.symm (hw_nn (hw_up (hw_up (hw_up (hw_us _ _ _) (Ne.symm (hw_nn (hw_us _ _ _) hq15))) (hw_nn (hw_up (hw_us _ _ _) (Ne.symm (hw_nn (hw_us _ _ _) hq15))) hq23)) (Ne.symm (hw_nn (hw_us _ _ _) hq15))) hq30))).trans fMp_q30
      have gw_ca_34 := (hFw _ (hw_sn fMp_ca_34) (Ne.symm g34_q15_ca_34)).trans fMp_ca_34
      have gw_ha_34 := (hFw _ (hw_sn fMp_ha_34) (Ne.symm g34_q15_ha_34)).trans fMp_ha_34
      have gw_sa_34 := (hFw _ (hw_sn fMp_sa_34) (Ne.symm g34_q15_sa_34)).trans fMp_sa_34
      have gw_q41 := (hFw _ (hw_sn fMp_q41) (Ne.symm (hw_nn (hw_up f34_q15 (Ne.symm (hw_nn (hw_us _ _ _) hq15))) hq41))).trans fMp_q41
      have gw_wa_45 := (hFw _ (hw_sn fMp_wa_45) (Ne.symm g45_q15_wa_45)).trans fMp_wa_45
      have abw : hw_alv Mp Mw1 := hw_alv_F (hw_alv_r Mp) hFw hQw
      have alw1 : hw_alv M Mw1 := fun x hx => abw x (alMp x hx)
      have frw1 : ∀ x, M x ≠ none → x ≠ a → Mw1 x = M x := fun x hx hxa => by rw [hFw x (alMp x hx) (hw_xn hx b_q15), frMp x hx hxa]
      refine lv_iload_n hx hb dX5_init_80 rfl (lv_at hl 0 rfl) ?_
      refine lv_bipush (v := nI 6) hx hb dX5_init_81 (by decide) ?_
      refine lv_icmp_ge (tgt := 106) hx hb dX5_init_83 (by decide) (fun _ => ?_) (fun hc => absurd (Int32.le_refl _) hc)
      replace hI := hI.exq (fun j => some (adw 8 j)) hQw (fun j hj => if_pos hj)
      obtain ⟨Mw, hMw⟩ : ∃ X : hw_M, X = va_up Mw1 q15 (hw_ar Z 4 6 (fun j => some (adw 8 j))) := ⟨_, rfl⟩
      replace hI := hI.eq hMw.symm
      have fMw_q15 : Mw q15 = hw_ar Z 4 6 (fun j => some (adw 8 j)) := by rw [hMw]; exact hw_us _ _ _
      have fMw_q6 : Mw q6 = hw_ar Z 3 4 (fun j => some (adp 1 j)) := by rw [hMw]; exact hw_up gw_q6 (hw_nn (hw_up (hw_us _ _ _) (Ne.symm (hw_nn h0 hq6))) hq15)
      have fMw_a : Mw a = hw_ob 6 [.ref q6, .ref q15, .ref q23, .int 0, .int 0, .int 0, .int 0, .ref q30, .ref q41] := by rw [hMw]; exact hw_up gw_a (hw_nn (hw_us _ _ _) hq15)
      have fMw_q23 : Mw q23 = hw_ar Z 5 2 (fun _ => none) := by rw [hMw]; exact hw_up gw_q23 (Ne.symm (hw_nn (hw_up (hw_us _ _ _) (Ne.symm (hw_nn (hw_us _ _ _) hq15))) hq23))
      have fMw_q30 : Mw q30 = hw_ob 5 [.ref ca_34, .ref ha_34, .ref sa_34] := by rw [hMw]; exact hw_up gw_q30 (Ne.symm (hw_nn (hw_up (hw_up (hw_up (hw_us _ _ _) (Ne.symm (hw_nn (hw_us _ _ _) hq15))) (hw_nn (hw_up (hw_us _ _ _) (Ne.symm (hw_nn (hw_us _ _ _) hq15))) hq23)) (Ne.symm (hw_nn (hw_us _ _ _) hq15))) hq30))
      have fMw_ca_34 : Mw ca_34 = hw_al Z 8 (fun _ => 0) := by rw [hMw]; exact hw_up gw_ca_34 (Ne.symm g34_q15_ca_34)
      have fMw_ha_34 : Mw ha_34 = hw_al Z 8 (fun _ => 0) := by rw [hMw]; exact hw_up gw_ha_34 (Ne.symm g34_q15_ha_34)
      have fMw_sa_34 : Mw sa_34 = hw_al Z 8 (fun _ => 0) := by rw [hMw]; exact hw_up gw_sa_34 (Ne.symm g34_q15_sa_34)
      have fMw_q41 : Mw q41 = hw_ob 2 [.ref wa_45, .int 0, .int 0] := by rw [hMw]; exact hw_up gw_q41 (Ne.symm (hw_nn (hw_up f34_q15 (Ne.symm (hw_nn (hw_us _ _ _) hq15))) hq41))
      have fMw_wa_45 : Mw wa_45 = hw_ad Z 64 (fun _ => 0) := by rw [hMw]; exact hw_up gw_wa_45 (Ne.symm g45_q15_wa_45)
      have alMw : hw_alv M Mw := by rw [hMw]; exact (hw_alv_u alw1)
      have frMw : ∀ x, M x ≠ none → x ≠ a → Mw x = M x := by rw [hMw]; exact fun x hx hxa => by rw [va_up_ne _ _ (hw_xn hx b_q15), frw1 x hx hxa]
      have gCw := hc_full (by decide) hCw (hw_sn fMp_q15) hMw
      have gFw : ∀ x, Mp x ≠ none → x ≠ q15 → Mw x = Mp x := fun x hx hxa => by rw [hMw, va_up_ne _ _ hxa, hFw x hx hxa]
      refine lv_iconst (v := nI 0) hx hb dX5_init_106 (by decide) ?_
      refine lv_istore_n (lv' := [(1, .int (nI 0)), (0, .ref a)]) hx hb dX5_init_107 rfl hl (by decide) rfl (fun ls hl => ?_)
      refine hw_wr (cells1 := (2 * 0 + 43)) (slots1 := (11 * 0 + 602)) (by omega) (by omega) ?_
      suffices LP108 : ∀ v, v ≤ 2 → ∀ (Mm1 : hw_M) (adm : hp_ad) (hCm : hc_ok 9 10 Mw Mm1 adm v (hc_E Z)) (hQm : Mm1 q23 = hw_ar Z 5 2 (hc_f (adm 9) v)) (hFm : ∀ x, Mw x ≠ none → x ≠ q23 → Mm1 x = Mw x) (H : Heap) (locs : List Loc) (ls : Array Slot), hw_iv Z s (Mm1) H locs → lv_has ls 2 [(1, .int (nI v)), (0, .ref a)] → W p l e ({ frames := 8, cells := 60, slots := 700, locals := 260 } : Room) s m ([.ref a] : List Value).toArray below meth c H locs (2 * v + 43) (11 * v + 602) Q (F0 m 108 ls []) from LP108 0 (by omega) Mw (fun _ _ => 0) (hc_ok0 _ _ _ _ _ _) (fMw_q23.trans (congrArg (hw_ar Z 5 2) (hc_f0 _))) (fun _ _ _ => rfl) _ _ _ hI (lv_sub hl [0, 1] rfl)
      refine hw_loop ?_ (fun v hi108 ih108 => ?_)
      · intro Mm1 adm hCm hQm hFm H locs ls hI hl
        have gm_q15 := (hFm _ (hw_sn fMw_q15) (hw_nn (hw_up (hw_us _ _ _) (Ne.symm (hw_nn (hw_us _ _ _) hq15))) hq23)).trans fMw_q15
        have gm_q6 := (hFm _ (hw_sn fMw_q6) (hw_nn (hw_up (hw_up (hw_up (hw_us _ _ _) (Ne.symm (hw_nn h0 hq6))) (hw_nn (hw_up (hw_us _ _ _) (Ne.symm (hw_nn h0 hq6))) hq15)) (Ne.symm (hw_nn h0 hq6))) hq23)).trans fMw_q6
        have gm_a := (hFm _ (hw_sn fMw_a) (hw_nn (hw_us _ _ _) hq23)).trans fMw_a
        have gm_q30 := (hFm _ (hw_sn fMw_q30) (Ne.symm (hw_nn (hw_up (hw_us _ _ _) (Ne.symm (hw_nn (hw_us _ _ _) hq23))) hq30))).trans fMw_q30
        have gm_ca_34 := (hFm _ (hw_sn fMw_ca_34) (Ne.symm g34_q23_ca_34)).trans fMw_ca_34
        have gm_ha_34 := (hFm _ (hw_sn fMw_ha_34) (Ne.symm g34_q23_ha_34)).trans fMw_ha_34
        have gm_sa_34 := (hFm _ (hw_sn fMw_sa_34) (Ne.symm g34_q23_sa_34)).trans fMw_sa_34
        have gm_q41 := (hFm _ (hw_sn fMw_q41) (Ne.symm (hw_nn (hw_up f34_q23 (Ne.symm (hw_nn (hw_us _ _ _) hq23))) hq41))).trans fMw_q41
        have gm_wa_45 := (hFm _ (hw_sn fMw_wa_45) (Ne.symm g45_q23_wa_45)).trans fMw_wa_45
        have abm : hw_alv Mw Mm1 := hw_alv_F (hw_alv_r Mw) hFm hQm
        have alm1 : hw_alv M Mm1 := fun x hx => abm x (alMw x hx)
        have frm1 : ∀ x, M x ≠ none → x ≠ a → Mm1 x = M x := fun x hx hxa => by rw [hFm x (alMw x hx) (hw_xn hx b_q23), frMw x hx hxa]
        refine lv_iload_n hx hb dX5_init_108 rfl (lv_at hl 0 rfl) ?_
        refine lv_iconst (v := nI 2) hx hb dX5_init_109 (by decide) ?_
        refine lv_icmp_ge (tgt := 133) hx hb dX5_init_110 (by decide) (fun _ => ?_) (fun hc => absurd (Int32.le_refl _) hc)
        replace hI := hI.exq (fun j => some (adm 9 j)) hQm (fun j hj => if_pos hj)
        obtain ⟨Mf, hMf⟩ : ∃ X : hw_M, X = va_up Mm1 q23 (hw_ar Z 5 2 (fun j => some (adm 9 j))) := ⟨_, rfl⟩
        replace hI := hI.eq hMf.symm
        have fMf_q23 : Mf q23 = hw_ar Z 5 2 (fun j => some (adm 9 j)) := by rw [hMf]; exact hw_us _ _ _
        have fMf_q15 : Mf q15 = hw_ar Z 4 6 (fun j => some (adw 8 j)) := by rw [hMf]; exact hw_up gm_q15 (hw_nn (hw_up (hw_us _ _ _) (Ne.symm (hw_nn (hw_us _ _ _) hq15))) hq23)
        have fMf_q6 : Mf q6 = hw_ar Z 3 4 (fun j => some (adp 1 j)) := by rw [hMf]; exact hw_up gm_q6 (hw_nn (hw_up (hw_up (hw_up (hw_us _ _ _) (Ne.symm (hw_nn h0 hq6))) (hw_nn (hw_up (hw_us _ _ _) (Ne.symm (hw_nn h0 hq6))) hq15)) (Ne.symm (hw_nn h0 hq6))) hq23)
        have fMf_a : Mf a = hw_ob 6 [.ref q6, .ref q15, .ref q23, .int 0, .int 0, .int 0, .int 0, .ref q30, .ref q41] := by rw [hMf]; exact hw_up gm_a (hw_nn (hw_us _ _ _) hq23)
        have fMf_q30 : Mf q30 = hw_ob 5 [.ref ca_34, .ref ha_34, .ref sa_34] := by rw [hMf]; exact hw_up gm_q30 (Ne.symm (hw_nn (hw_up (hw_us _ _ _) (Ne.symm (hw_nn (hw_us _ _ _) hq23))) hq30))
        have fMf_ca_34 : Mf ca_34 = hw_al Z 8 (fun _ => 0) := by rw [hMf]; exact hw_up gm_ca_34 (Ne.symm g34_q23_ca_34)
        have fMf_ha_34 : Mf ha_34 = hw_al Z 8 (fun _ => 0) := by rw [hMf]; exact hw_up gm_ha_34 (Ne.symm g34_q23_ha_34)
        have fMf_sa_34 : Mf sa_34 = hw_al Z 8 (fun _ => 0) := by rw [hMf]; exact hw_up gm_sa_34 (Ne.symm g34_q23_sa_34)
        have fMf_q41 : Mf q41 = hw_ob 2 [.ref wa_45, .int 0, .int 0] := by rw [hMf]; exact hw_up gm_q41 (Ne.symm (hw_nn (hw_up f34_q23 (Ne.symm (hw_nn (hw_us _ _ _) hq23))) hq41))
        have fMf_wa_45 : Mf wa_45 = hw_ad Z 64 (fun _ => 0) := by rw [hMf]; exact hw_up gm_wa_45 (Ne.symm g45_q23_wa_45)
        have alMf : hw_alv M Mf := by rw [hMf]; exact (hw_alv_u alm1)
        have frMf : ∀ x, M x ≠ none → x ≠ a → Mf x = M x := by rw [hMf]; exact fun x hx hxa => by rw [va_up_ne _ _ (hw_xn hx b_q23), frm1 x hx hxa]
        have gCm := hc_full (by decide) hCm (hw_sn fMw_q23) hMf
        have gFm : ∀ x, Mw x ≠ none → x ≠ q23 → Mf x = Mw x := fun x hx hxa => by rw [hMf, va_up_ne _ _ hxa, hFm x hx hxa]
        let c0 : Nat → Nat := fun i => match i with | 0 => a | 1 => q6 | 2 => q15 | 3 => q23 | 4 => q30 | 5 => ca_34 | 6 => ha_34 | 7 => sa_34 | 8 => q41 | _ => wa_45
        have z1 : ∀ i, 1 ≤ i → i < 10 → M (c0 i) = none := by
          intro i h1 h2
          rcases (show i = 1 ∨ i = 2 ∨ i = 3 ∨ i = 4 ∨ i = 5 ∨ i = 6 ∨ i = 7 ∨ i = 8 ∨ i = 9 by omega) with rfl | rfl | rfl | rfl | rfl | rfl | rfl | rfl | rfl
          · exact b_q6
          · exact b_q15
          · exact b_q23
          · exact b_q30
          · exact b_ca_34
          · exact b_ha_34
          · exact b_sa_34
          · exact b_q41
          · exact b_wa_45
        have z2 : ∀ i j, i < 10 → j < 10 → c0 i = c0 j → i = j := by
          intro i j h1 h2
          rcases (show i = 0 ∨ i = 1 ∨ i = 2 ∨ i = 3 ∨ i = 4 ∨ i = 5 ∨ i = 6 ∨ i = 7 ∨ i = 8 ∨ i = 9 by omega) with rfl | rfl | rfl | rfl | rfl | rfl | rfl | rfl | rfl | rfl <;> rcases (show j = 0 ∨ j = 1 ∨ j = 2 ∨ j = 3 ∨ j = 4 ∨ j = 5 ∨ j = 6 ∨ j = 7 ∨ j = 8 ∨ j = 9 by omega) with rfl | rfl | rfl | rfl | rfl | rfl | rfl | rfl | rfl | rfl
          · exact fun _ => rfl
          · exact fun h => absurd h (hw_nn h0 hq6)
          · exact fun h => absurd h (hw_nn (hw_us _ _ _) hq15)
          · exact fun h => absurd h (hw_nn (hw_us _ _ _) hq23)
          · exact fun h => absurd h (hw_nn (hw_us _ _ _) hq30)
          · exact fun h => absurd h g34_a_ca_34
          · exact fun h => absurd h g34_a_ha_34
          · exact fun h => absurd h g34_a_sa_34
          · exact fun h => absurd h (hw_nn (hw_us _ _ _) hq41)
          · exact fun h => absurd h g45_a_wa_45
          · exact fun h => absurd h (Ne.symm (hw_nn h0 hq6))
          · exact fun _ => rfl
          · exact fun h => absurd h (hw_nn (hw_up (hw_us _ _ _) (Ne.symm (hw_nn h0 hq6))) hq15)
          · exact fun h => absurd h (hw_nn (hw_up (hw_up (hw_up (hw_us _ _ _) (Ne.symm (hw_nn h0 hq6))) (hw_nn (hw_up (hw_us _ _ _) (Ne.symm (hw_nn h0 hq6))) hq15)) (Ne.symm (hw_nn h0 hq6))) hq23)
          · exact fun h => absurd h (hw_nn (hw_up (hw_up (hw_up (hw_up (hw_up (hw_us _ _ _) (Ne.symm (hw_nn h0 hq6))) (hw_nn (hw_up (hw_us _ _ _) (Ne.symm (hw_nn h0 hq6))) hq15)) (Ne.symm (hw_nn h0 hq6))) (hw_nn (hw_up (hw_up (hw_up (hw_us _ _ _) (Ne.symm (hw_nn h0 hq6))) (hw_nn (hw_up (hw_us _ _ _) (Ne.symm (hw_nn h0 hq6))) hq15)) (Ne.symm (hw_nn h0 hq6))) hq23)) (Ne.symm (hw_nn h0 hq6))) hq30)
          · exact fun h => absurd h g34_q6_ca_34
          · exact fun h => absurd h g34_q6_ha_34
          · exact fun h => absurd h g34_q6_sa_34
          · exact fun h => absurd h (hw_nn (hw_up f34_q6 (Ne.symm (hw_nn h0 hq6))) hq41)
          · exact fun h => absurd h g45_q6_wa_45
          · exact fun h => absurd h (Ne.symm (hw_nn (hw_us _ _ _) hq15))
          · exact fun h => absurd h (Ne.symm (hw_nn (hw_up (hw_us _ _ _) (Ne.symm (hw_nn h0 hq6))) hq15))
          · exact fun _ => rfl
          · exact fun h => absurd h (hw_nn (hw_up (hw_us _ _ _) (Ne.symm (hw_nn (hw_us _ _ _) hq15))) hq23)
          · exact fun h => absurd h (hw_nn (hw_up (hw_up (hw_up (hw_us _ _ _) (Ne.symm (hw_nn (hw_us _ _ _) hq15))) (hw_nn (hw_up (hw_us _ _ _) (Ne.symm (hw_nn (hw_us _ _ _) hq15))) hq23)) (Ne.symm (hw_nn (hw_us _ _ _) hq15))) hq30)
          · exact fun h => absurd h g34_q15_ca_34
          · exact fun h => absurd h g34_q15_ha_34
          · exact fun h => absurd h g34_q15_sa_34
          · exact fun h => absurd h (hw_nn (hw_up f34_q15 (Ne.symm (hw_nn (hw_us _ _ _) hq15))) hq41)
          · exact fun h => absurd h g45_q15_wa_45
          · exact fun h => absurd h (Ne.symm (hw_nn (hw_us _ _ _) hq23))
          · exact fun h => absurd h (Ne.symm (hw_nn (hw_up (hw_up (hw_up (hw_us _ _ _) (Ne.symm (hw_nn h0 hq6))) (hw_nn (hw_up (hw_us _ _ _) (Ne.symm (hw_nn h0 hq6))) hq15)) (Ne.symm (hw_nn h0 hq6))) hq23))
          · exact fun h => absurd h (Ne.symm (hw_nn (hw_up (hw_us _ _ _) (Ne.symm (hw_nn (hw_us _ _ _) hq15))) hq23))
          · exact fun _ => rfl
          · exact fun h => absurd h (hw_nn (hw_up (hw_us _ _ _) (Ne.symm (hw_nn (hw_us _ _ _) hq23))) hq30)
          · exact fun h => absurd h g34_q23_ca_34
          · exact fun h => absurd h g34_q23_ha_34
          · exact fun h => absurd h g34_q23_sa_34
          · exact fun h => absurd h (hw_nn (hw_up f34_q23 (Ne.symm (hw_nn (hw_us _ _ _) hq23))) hq41)
          · exact fun h => absurd h g45_q23_wa_45
          · exact fun h => absurd h (Ne.symm (hw_nn (hw_us _ _ _) hq30))
          · exact fun h => absurd h (Ne.symm (hw_nn (hw_up (hw_up (hw_up (hw_up (hw_up (hw_us _ _ _) (Ne.symm (hw_nn h0 hq6))) (hw_nn (hw_up (hw_us _ _ _) (Ne.symm (hw_nn h0 hq6))) hq15)) (Ne.symm (hw_nn h0 hq6))) (hw_nn (hw_up (hw_up (hw_up (hw_us _ _ _) (Ne.symm (hw_nn h0 hq6))) (hw_nn (hw_up (hw_us _ _ _) (Ne.symm (hw_nn h0 hq6))) hq15)) (Ne.symm (hw_nn h0 hq6))) hq23)) (Ne.symm (hw_nn h0 hq6))) hq30))
          · exact fun h => absurd h (Ne.symm (hw_nn (hw_up (hw_up (hw_up (hw_us _ _ _) (Ne.symm (hw_nn (hw_us _ _ _) hq15))) (hw_nn (hw_up (hw_us _ _ _) (Ne.symm (hw_nn (hw_us _ _ _) hq15))) hq23)) (Ne.symm (hw_nn (hw_us _ _ _) hq15))) hq30))
          · exact fun h => absurd h (Ne.symm (hw_nn (hw_up (hw_us _ _ _) (Ne.symm (hw_nn (hw_us _ _ _) hq23))) hq30))
          · exact fun _ => rfl
          · exact fun h => absurd h g34_q30_ca_34
          · exact fun h => absurd h g34_q30_ha_34
          · exact fun h => absurd h g34_q30_sa_34
          · exact fun h => absurd h (hw_nn (hw_up ha34 (Ne.symm (hw_nn (hw_us _ _ _) hq30))) hq41)
          · exact fun h => absurd h g45_q30_wa_45
          · exact fun h => absurd h (Ne.symm g34_a_ca_34)
          · exact fun h => absurd h (Ne.symm g34_q6_ca_34)
          · exact fun h => absurd h (Ne.symm g34_q15_ca_34)
          · exact fun h => absurd h (Ne.symm g34_q23_ca_34)
          · exact fun h => absurd h (Ne.symm g34_q30_ca_34)
          · exact fun _ => rfl
          · exact fun h => absurd h hd34.1
          · exact fun h => absurd h hd34.2.1
          · exact fun h => absurd h (hw_nn (hw_up he_ca_34 (Ne.symm g34_a_ca_34)) hq41)
          · exact fun h => absurd h g45_ca_34_wa_45
          · exact fun h => absurd h (Ne.symm g34_a_ha_34)
          · exact fun h => absurd h (Ne.symm g34_q6_ha_34)
          · exact fun h => absurd h (Ne.symm g34_q15_ha_34)
          · exact fun h => absurd h (Ne.symm g34_q23_ha_34)
          · exact fun h => absurd h (Ne.symm g34_q30_ha_34)
          · exact fun h => absurd h (Ne.symm hd34.1)
          · exact fun _ => rfl
          · exact fun h => absurd h hd34.2.2
          · exact fun h => absurd h (hw_nn (hw_up he_ha_34 (Ne.symm g34_a_ha_34)) hq41)
          · exact fun h => absurd h g45_ha_34_wa_45
          · exact fun h => absurd h (Ne.symm g34_a_sa_34)
          · exact fun h => absurd h (Ne.symm g34_q6_sa_34)
          · exact fun h => absurd h (Ne.symm g34_q15_sa_34)
          · exact fun h => absurd h (Ne.symm g34_q23_sa_34)
          · exact fun h => absurd h (Ne.symm g34_q30_sa_34)
          · exact fun h => absurd h (Ne.symm hd34.2.1)
          · exact fun h => absurd h (Ne.symm hd34.2.2)
          · exact fun _ => rfl
          · exact fun h => absurd h (hw_nn (hw_up he_sa_34 (Ne.symm g34_a_sa_34)) hq41)
          · exact fun h => absurd h g45_sa_34_wa_45
          · exact fun h => absurd h (Ne.symm (hw_nn (hw_us _ _ _) hq41))
          · exact fun h => absurd h (Ne.symm (hw_nn (hw_up f34_q6 (Ne.symm (hw_nn h0 hq6))) hq41))
          · exact fun h => absurd h (Ne.symm (hw_nn (hw_up f34_q15 (Ne.symm (hw_nn (hw_us _ _ _) hq15))) hq41))
          · exact fun h => absurd h (Ne.symm (hw_nn (hw_up f34_q23 (Ne.symm (hw_nn (hw_us _ _ _) hq23))) hq41))
          · exact fun h => absurd h (Ne.symm (hw_nn (hw_up ha34 (Ne.symm (hw_nn (hw_us _ _ _) hq30))) hq41))
          · exact fun h => absurd h (Ne.symm (hw_nn (hw_up he_ca_34 (Ne.symm g34_a_ca_34)) hq41))
          · exact fun h => absurd h (Ne.symm (hw_nn (hw_up he_ha_34 (Ne.symm g34_a_ha_34)) hq41))
          · exact fun h => absurd h (Ne.symm (hw_nn (hw_up he_sa_34 (Ne.symm g34_a_sa_34)) hq41))
          · exact fun _ => rfl
          · exact fun h => absurd h g45_q41_wa_45
          · exact fun h => absurd h (Ne.symm g45_a_wa_45)
          · exact fun h => absurd h (Ne.symm g45_q6_wa_45)
          · exact fun h => absurd h (Ne.symm g45_q15_wa_45)
          · exact fun h => absurd h (Ne.symm g45_q23_wa_45)
          · exact fun h => absurd h (Ne.symm g45_q30_wa_45)
          · exact fun h => absurd h (Ne.symm g45_ca_34_wa_45)
          · exact fun h => absurd h (Ne.symm g45_ha_34_wa_45)
          · exact fun h => absurd h (Ne.symm g45_sa_34_wa_45)
          · exact fun h => absurd h (Ne.symm g45_q41_wa_45)
          · exact fun _ => rfl
        have z3 : ∀ i, i < 10 → Mb (c0 i) ≠ none := by
          intro i h1
          rcases (show i = 0 ∨ i = 1 ∨ i = 2 ∨ i = 3 ∨ i = 4 ∨ i = 5 ∨ i = 6 ∨ i = 7 ∨ i = 8 ∨ i = 9 by omega) with rfl | rfl | rfl | rfl | rfl | rfl | rfl | rfl | rfl | rfl
          · exact hw_sn fMb_a
          · exact hw_sn fMb_q6
          · exact hw_sn fMb_q15
          · exact hw_sn fMb_q23
          · exact hw_sn fMb_q30
          · exact hw_sn fMb_ca_34
          · exact hw_sn fMb_ha_34
          · exact hw_sn fMb_sa_34
          · exact hw_sn fMb_q41
          · exact hw_sn fMb_wa_45
        have z4 : ∀ i, i < 10 → Mf (c0 i) = hp_e Z (hc_all c0 adp adw adm) hs_0 hp_T0 0 i := by
          intro i h1
          rcases (show i = 0 ∨ i = 1 ∨ i = 2 ∨ i = 3 ∨ i = 4 ∨ i = 5 ∨ i = 6 ∨ i = 7 ∨ i = 8 ∨ i = 9 by omega) with rfl | rfl | rfl | rfl | rfl | rfl | rfl | rfl | rfl | rfl
          · exact (fMf_a).trans (by first | rfl | (show hw_al Z 8 _ = hw_al Z 8 _; rfl))
          · exact (fMf_q6).trans (by first | rfl | (show hw_al Z 8 _ = hw_al Z 8 _; rfl))
          · exact (fMf_q15).trans (by first | rfl | (show hw_al Z 8 _ = hw_al Z 8 _; rfl))
          · exact (fMf_q23).trans (by first | rfl | (show hw_al Z 8 _ = hw_al Z 8 _; rfl))
          · exact (fMf_q30).trans (by first | rfl | (show hw_al Z 8 _ = hw_al Z 8 _; rfl))
          · exact (fMf_ca_34).trans (by first | rfl | (show hw_al Z 8 _ = hw_al Z 8 _; rfl))
          · exact (fMf_ha_34).trans (by first | rfl | (show hw_al Z 8 _ = hw_al Z 8 _; rfl))
          · exact (fMf_sa_34).trans (by first | rfl | (show hw_al Z 8 _ = hw_al Z 8 _; rfl))
          · exact (fMf_q41).trans (by first | rfl | (show hw_al Z 8 _ = hw_al Z 8 _; rfl))
          · exact (fMf_wa_45).trans (by first | rfl | (show hw_al Z 8 _ = hw_al Z 8 _; rfl))
        have hfin : (fun M' => ∃ ad : hp_ad, ad 0 0 = a ∧ hp_ok Z (fun x => M x ≠ none ∧ x ≠ a) M' ad hs_0 hp_T0 ∧ ∀ x, M x ≠ none → x ≠ a → M' x = M x) Mf := ⟨hc_all c0 adp adw adm, rfl, hc_make alMb z1 z2 z3 gCp gFp (hw_sn fMp_q6) gCw gFw (hw_sn fMw_q15) gCm gFm z4, frMf⟩
        exact hret hI hfin (Nat.le_of_ble_eq_true rfl) (Nat.le_of_ble_eq_true rfl) dX5_init_133
      · intro Mm1 adm hCm hQm hFm H locs ls hI hl
        have gm_q15 := (hFm _ (hw_sn fMw_q15) (hw_nn (hw_up (hw_us _ _ _) (Ne.symm (hw_nn (hw_us _ _ _) hq15))) hq23)).trans fMw_q15
        have gm_q6 := (hFm _ (hw_sn fMw_q6) (hw_nn (hw_up (hw_up (hw_up (hw_us _ _ _) (Ne.symm (hw_nn h0 hq6))) (hw_nn (hw_up (hw_us _ _ _) (Ne.symm (hw_nn h0 hq6))) hq15)) (Ne.symm (hw_nn h0 hq6))) hq23)).trans fMw_q6
        have gm_a := (hFm _ (hw_sn fMw_a) (hw_nn (hw_us _ _ _) hq23)).trans fMw_a
        have gm_q30 := (hFm _ (hw_sn fMw_q30) (Ne.symm (hw_nn (hw_up (hw_us _ _ _) (Ne.symm (hw_nn (hw_us _ _ _) hq23))) hq30))).trans fMw_q30
        have gm_ca_34 := (hFm _ (hw_sn fMw_ca_34) (Ne.symm g34_q23_ca_34)).trans fMw_ca_34
        have gm_ha_34 := (hFm _ (hw_sn fMw_ha_34) (Ne.symm g34_q23_ha_34)).trans fMw_ha_34
        have gm_sa_34 := (hFm _ (hw_sn fMw_sa_34) (Ne.symm g34_q23_sa_34)).trans fMw_sa_34
        have gm_q41 := (hFm _ (hw_sn fMw_q41) (Ne.symm (hw_nn (hw_up f34_q23 (Ne.symm (hw_nn (hw_us _ _ _) hq23))) hq41))).trans fMw_q41
        have gm_wa_45 := (hFm _ (hw_sn fMw_wa_45) (Ne.symm g45_q23_wa_45)).trans fMw_wa_45
        have abm : hw_alv Mw Mm1 := hw_alv_F (hw_alv_r Mw) hFm hQm
        have alm1 : hw_alv M Mm1 := fun x hx => abm x (alMw x hx)
        have frm1 : ∀ x, M x ≠ none → x ≠ a → Mm1 x = M x := fun x hx hxa => by rw [hFm x (alMw x hx) (hw_xn hx b_q23), frMw x hx hxa]
        refine lv_iload_n hx hb dX5_init_108 rfl (lv_at hl 0 rfl) ?_
        refine lv_iconst (v := nI 2) hx hb dX5_init_109 (by decide) ?_
        refine lv_icmp_ge (tgt := 133) hx hb dX5_init_110 (by decide) (fun hc => absurd hc (nI_ge hi108 (by decide))) (fun _ => ?_)
        refine lv_aload_n hx hb dX5_init_113 rfl (lv_at hl 1 rfl) ?_
        refine hw_get hx hb hts hown hk hI fd_X5_23 gm_a rfl dX5_init_114 ?_
        refine lv_iload_n hx hb dX5_init_117 rfl (lv_at hl 0 rfl) ?_
        refine hw_new hx hb hts hown hk hI fn_X5_21 (by first | exact Nat.le_of_ble_eq_true rfl | omega | (dsimp only; omega)) (by first | exact Nat.le_of_ble_eq_true rfl | omega | (dsimp only; omega)) dX5_init_118 (fun q118 H hq118 hI => ?_)
        have b_q118 : M q118 = none := hw_alv.n alm1 hq118
        refine lv_dup hx hb dX5_init_121 rfl ?_
        refine lv_iload_n hx hb dX5_init_122 rfl (lv_at hl 0 rfl) ?_
        refine hw_cv hI (hw_rI hx hb hml hown hts hk hI (m_X0_init l Z (va_up Mm1 q118 (hw_ob 1 [.int 0, .int 0, .null, .int 0, .null, .null, .int 0])) q118 v (hw_us _ _ _)) ci_X5_45 ⟨rfl, rfl⟩ ⟨(by first | exact Nat.le_of_ble_eq_true rfl | omega | (dsimp only; omega)), (by first | exact Nat.le_of_ble_eq_true rfl | omega | (dsimp only; omega))⟩ rfl hl.1 rfl (by first | exact Nat.le_of_ble_eq_true rfl | omega | (dsimp only; omega)) ⟨(by first | exact Nat.le_of_ble_eq_true rfl | omega | (dsimp only; omega)), (by first | exact Nat.le_of_ble_eq_true rfl | omega | (dsimp only; omega))⟩ dX5_init_123) (fun M123 H locs hR hI => ?_)
        obtain ⟨pa_123, hn_pa_123, hd123, he_pa_123, ha123, hF123⟩ := hR
        have f123_q23 := (hF123 _ (hw_sn (hw_up hQm (hw_nn hQm hq118))) (hw_nn hQm hq118)).trans (hw_up hQm (hw_nn hQm hq118))
        have g123_q23_pa_123 : q23 ≠ pa_123 := hw_xn (hw_sn (hw_up hQm (hw_nn hQm hq118))) hn_pa_123
        have f123_q15 := (hF123 _ (hw_sn (hw_up gm_q15 (hw_nn gm_q15 hq118))) (hw_nn gm_q15 hq118)).trans (hw_up gm_q15 (hw_nn gm_q15 hq118))
        have g123_q15_pa_123 : q15 ≠ pa_123 := hw_xn (hw_sn (hw_up gm_q15 (hw_nn gm_q15 hq118))) hn_pa_123
        have f123_q6 := (hF123 _ (hw_sn (hw_up gm_q6 (hw_nn gm_q6 hq118))) (hw_nn gm_q6 hq118)).trans (hw_up gm_q6 (hw_nn gm_q6 hq118))
        have g123_q6_pa_123 : q6 ≠ pa_123 := hw_xn (hw_sn (hw_up gm_q6 (hw_nn gm_q6 hq118))) hn_pa_123
        have f123_a := (hF123 _ (hw_sn (hw_up gm_a (hw_nn gm_a hq118))) (hw_nn gm_a hq118)).trans (hw_up gm_a (hw_nn gm_a hq118))
        have g123_a_pa_123 : a ≠ pa_123 := hw_xn (hw_sn (hw_up gm_a (hw_nn gm_a hq118))) hn_pa_123
        have f123_q30 := (hF123 _ (hw_sn (hw_up gm_q30 (hw_nn gm_q30 hq118))) (hw_nn gm_q30 hq118)).trans (hw_up gm_q30 (hw_nn gm_q30 hq118))
        have g123_q30_pa_123 : q30 ≠ pa_123 := hw_xn (hw_sn (hw_up gm_q30 (hw_nn gm_q30 hq118))) hn_pa_123
        have f123_ca_34 := (hF123 _ (hw_sn (hw_up gm_ca_34 (hw_nn gm_ca_34 hq118))) (hw_nn gm_ca_34 hq118)).trans (hw_up gm_ca_34 (hw_nn gm_ca_34 hq118))
        have g123_ca_34_pa_123 : ca_34 ≠ pa_123 := hw_xn (hw_sn (hw_up gm_ca_34 (hw_nn gm_ca_34 hq118))) hn_pa_123
        have f123_ha_34 := (hF123 _ (hw_sn (hw_up gm_ha_34 (hw_nn gm_ha_34 hq118))) (hw_nn gm_ha_34 hq118)).trans (hw_up gm_ha_34 (hw_nn gm_ha_34 hq118))
        have g123_ha_34_pa_123 : ha_34 ≠ pa_123 := hw_xn (hw_sn (hw_up gm_ha_34 (hw_nn gm_ha_34 hq118))) hn_pa_123
        have f123_sa_34 := (hF123 _ (hw_sn (hw_up gm_sa_34 (hw_nn gm_sa_34 hq118))) (hw_nn gm_sa_34 hq118)).trans (hw_up gm_sa_34 (hw_nn gm_sa_34 hq118))
        have g123_sa_34_pa_123 : sa_34 ≠ pa_123 := hw_xn (hw_sn (hw_up gm_sa_34 (hw_nn gm_sa_34 hq118))) hn_pa_123
        have f123_q41 := (hF123 _ (hw_sn (hw_up gm_q41 (hw_nn gm_q41 hq118))) (hw_nn gm_q41 hq118)).trans (hw_up gm_q41 (hw_nn gm_q41 hq118))
        have g123_q41_pa_123 : q41 ≠ pa_123 := hw_xn (hw_sn (hw_up gm_q41 (hw_nn gm_q41 hq118))) hn_pa_123
        have f123_wa_45 := (hF123 _ (hw_sn (hw_up gm_wa_45 (hw_nn gm_wa_45 hq118))) (hw_nn gm_wa_45 hq118)).trans (hw_up gm_wa_45 (hw_nn gm_wa_45 hq118))
        have g123_wa_45_pa_123 : wa_45 ≠ pa_123 := hw_xn (hw_sn (hw_up gm_wa_45 (hw_nn gm_wa_45 hq118))) hn_pa_123
        have g123_q118_pa_123 : q118 ≠ pa_123 := hw_xn (hw_sn (hw_us _ _ _)) hn_pa_123
        have b_pa_123 : M pa_123 = none := hw_alv.n (hw_alv_u alm1) hn_pa_123
        have al123 : hw_alv M M123 := hw_alv_F (hw_alv_u alm1) hF123 ha123
        have fr123 : ∀ x, M x ≠ none → x ≠ a → M123 x = M x := fun x hx hxa => by rw [hF123 x ((hw_alv_u alm1) x hx) (hw_xn hx b_q118), va_up_ne _ _ (hw_xn hx b_q118), frm1 x hx hxa]
        refine hw_aast hx hb hk hI 5 f123_q23 rfl ha123 rfl (j := v) rfl (by omega) (by decide) dX5_init_126 (fun H locs hI => ?_)
        refine lv_iinc (v := nI (v + 1)) (lv' := [(1, .int (nI (v + 1))), (0, .ref a)]) hx hb dX5_init_127 hl (k := 0) rfl (hw_inc _) (by decide) rfl (fun ls hl => ?_)
        refine lv_goto (tgt := 108) hx hb dX5_init_130 (by decide) ?_
        refine hw_wr (cells1 := (2 * (v + 1) + 43)) (slots1 := (11 * (v + 1) + 602)) (by omega) (by omega) ?_
        let cf : Nat → Nat := fun k => match k with | 9 => q118 | _ => pa_123
        have hcf : cf 9 = q118 := rfl
        have hcn : ∀ k, 9 + 1 ≤ k → k ≤ 10 → (va_up Mm1 q118 (hw_ob 1 [.int 0, .int 0, .null, .int 0, .null, .null, .int 0])) (cf k) = none := fun k h1 h2 => by
          have hk : k = 10 := by omega
          subst hk
          exact hn_pa_123
        have hci : ∀ k j, 9 ≤ k → k ≤ 10 → 9 ≤ j → j ≤ 10 → cf k = cf j → k = j := by
          intro k j h1 h2 h3 h4
          rcases (show k = 9 ∨ k = 10 by omega) with rfl | rfl <;> rcases (show j = 9 ∨ j = 10 by omega) with rfl | rfl
          · exact fun _ => rfl
          · exact fun h => absurd h g123_q118_pa_123
          · exact fun h => absurd h (Ne.symm g123_q118_pa_123)
          · exact fun _ => rfl
        have hce : ∀ k, 9 ≤ k → k ≤ 10 → (M123) (cf k) = hc_E Z (fun k _ => cf k) k v := by
          intro k h1 h2
          rcases (show k = 9 ∨ k = 10 by omega) with rfl | rfl
          · exact ha123
          · exact he_pa_123
        have hcF : ∀ x, (va_up Mm1 q118 (hw_ob 1 [.int 0, .int 0, .null, .int 0, .null, .null, .int 0])) x ≠ none → x ≠ q118 → (M123) x = (va_up Mm1 q118 (hw_ob 1 [.int 0, .int 0, .null, .int 0, .null, .null, .int 0])) x := hF123
        have hC2 := hc_add (e' := (.inl (Z.2.1 5, 2, .inr (.inr (.inr (.inr (va_up (hc_f (adm 9) v) v (some q118)))))))) (by decide) (hc_l9 Z) (fun ad k i _ _ => hc_s Z ad k i) hCm abm (hw_sn fMw_q23) hq118 hcf hcn hci hce hcF
        exact ih108 _ (hc_ad adm v cf) hC2 ((hw_us _ _ _).trans (congrArg (hw_ar Z 5 2) (by rw [← hcf]; exact hc_fs adm v cf 9))) (hc_frame abm hq118 hFm hcF) _ _ _ hI (lv_sub hl [0, 1] rfl)
    · intro Mw1 adw hCw hQw hFw H locs ls hI hl
      have gw_q6 := (hFw _ (hw_sn fMp_q6) (hw_nn (hw_up (hw_us _ _ _) (Ne.symm (hw_nn h0 hq6))) hq15)).trans fMp_q6
      have gw_a := (hFw _ (hw_sn fMp_a) (hw_nn (hw_us _ _ _) hq15)).trans fMp_a
      have gw_q23 := (hFw _ (hw_sn fMp_q23) (Ne.symm (hw_nn (hw_up (hw_us _ _ _) (Ne.symm (hw_nn (hw_us _ _ _) hq15))) hq23))).trans fMp_q23
      have gw_q30 := (hFw _ (hw_sn fMp_q30) (Ne.symm (hw_nn (hw_up (hw_up (hw_up (hw_us _ _ _) (Ne.symm (hw_nn (hw_us _ _ _) hq15))) (hw_nn (hw_up (hw_us _ _ _) (Ne.symm (hw_nn (hw_us _ _ _) hq15))) hq23)) (Ne.symm (hw_nn (hw_us _ _ _) hq15))) hq30))).trans fMp_q30
      have gw_ca_34 := (hFw _ (hw_sn fMp_ca_34) (Ne.symm g34_q15_ca_34)).trans fMp_ca_34
      have gw_ha_34 := (hFw _ (hw_sn fMp_ha_34) (Ne.symm g34_q15_ha_34)).trans fMp_ha_34
      have gw_sa_34 := (hFw _ (hw_sn fMp_sa_34) (Ne.symm g34_q15_sa_34)).trans fMp_sa_34
      have gw_q41 := (hFw _ (hw_sn fMp_q41) (Ne.symm (hw_nn (hw_up f34_q15 (Ne.symm (hw_nn (hw_us _ _ _) hq15))) hq41))).trans fMp_q41
      have gw_wa_45 := (hFw _ (hw_sn fMp_wa_45) (Ne.symm g45_q15_wa_45)).trans fMp_wa_45
      have abw : hw_alv Mp Mw1 := hw_alv_F (hw_alv_r Mp) hFw hQw
      have alw1 : hw_alv M Mw1 := fun x hx => abw x (alMp x hx)
      have frw1 : ∀ x, M x ≠ none → x ≠ a → Mw1 x = M x := fun x hx hxa => by rw [hFw x (alMp x hx) (hw_xn hx b_q15), frMp x hx hxa]
      refine lv_iload_n hx hb dX5_init_80 rfl (lv_at hl 0 rfl) ?_
      refine lv_bipush (v := nI 6) hx hb dX5_init_81 (by decide) ?_
      refine lv_icmp_ge (tgt := 106) hx hb dX5_init_83 (by decide) (fun hc => absurd hc (nI_ge hi80 (by decide))) (fun _ => ?_)
      refine lv_aload_n hx hb dX5_init_86 rfl (lv_at hl 1 rfl) ?_
      refine hw_get hx hb hts hown hk hI fd_X5_17 gw_a rfl dX5_init_87 ?_
      refine lv_iload_n hx hb dX5_init_90 rfl (lv_at hl 0 rfl) ?_
      refine hw_new hx hb hts hown hk hI fn_X5_15 (by first | exact Nat.le_of_ble_eq_true rfl | omega | (dsimp only; omega)) (by first | exact Nat.le_of_ble_eq_true rfl | omega | (dsimp only; omega)) dX5_init_91 (fun q91 H hq91 hI => ?_)
      have b_q91 : M q91 = none := hw_alv.n alw1 hq91
      refine lv_dup hx hb dX5_init_94 rfl ?_
      refine lv_iload_n hx hb dX5_init_95 rfl (lv_at hl 0 rfl) ?_
      refine hw_cv hI (hw_rI hx hb hml hown hts hk hI (m_X3_init l Z (va_up Mw1 q91 (hw_ob 4 [.int 0, .int 0, .int 0, .int 0, .int 0, .int 0])) q91 v (hw_us _ _ _)) ci_X5_44 ⟨rfl, rfl⟩ ⟨(by first | exact Nat.le_of_ble_eq_true rfl | omega | (dsimp only; omega)), (by first | exact Nat.le_of_ble_eq_true rfl | omega | (dsimp only; omega))⟩ rfl hl.1 rfl (by first | exact Nat.le_of_ble_eq_true rfl | omega | (dsimp only; omega)) ⟨(by first | exact Nat.le_of_ble_eq_true rfl | omega | (dsimp only; omega)), (by first | exact Nat.le_of_ble_eq_true rfl | omega | (dsimp only; omega))⟩ dX5_init_96) (fun M96 H locs hR hI => ?_)
      subst hR
      refine hw_aast hx hb hk hI 4 (hw_up (hw_up hQw (hw_nn hQw hq91)) (hw_nn hQw hq91)) rfl (hw_us _ _ _) rfl (j := v) rfl (by omega) (by decide) dX5_init_99 (fun H locs hI => ?_)
      refine lv_iinc (v := nI (v + 1)) (lv' := [(1, .int (nI (v + 1))), (0, .ref a)]) hx hb dX5_init_100 hl (k := 0) rfl (hw_inc _) (by decide) rfl (fun ls hl => ?_)
      refine lv_goto (tgt := 80) hx hb dX5_init_103 (by decide) ?_
      refine hw_wr (cells1 := (1 * (v + 1) + 37)) (slots1 := (6 * (v + 1) + 566)) (by omega) (by omega) ?_
      have hcf : (fun _ : Nat => q91) 8 = q91 := rfl
      have hcn : ∀ k, 8 + 1 ≤ k → k ≤ 8 → (va_up Mw1 q91 (hw_ob 4 [.int 0, .int 0, .int 0, .int 0, .int 0, .int 0])) ((fun _ : Nat => q91) k) = none := fun k h1 h2 => by omega
      have hci : ∀ k j, 8 ≤ k → k ≤ 8 → 8 ≤ j → j ≤ 8 → (fun _ : Nat => q91) k = (fun _ : Nat => q91) j → k = j := fun k j h1 h2 h3 h4 _ => by omega
      let cf : Nat → Nat := fun _ => q91
      have hce : ∀ k, 8 ≤ k → k ≤ 8 → (va_up (va_up Mw1 q91 (hw_ob 4 [.int 0, .int 0, .int 0, .int 0, .int 0, .int 0])) q91 (hw_ob 4 [.int (nI v), .int 0, .int 0, .int 0, .int (nI 1 <<< (nI v &&& 31)), .int (-1)])) (cf k) = hc_E Z (fun k _ => cf k) k v := fun k h1 h2 => by
        have hk : k = 8 := by omega
        subst hk
        exact hw_us _ _ _
      have hcF : ∀ x, (va_up Mw1 q91 (hw_ob 4 [.int 0, .int 0, .int 0, .int 0, .int 0, .int 0])) x ≠ none → x ≠ q91 → (va_up (va_up Mw1 q91 (hw_ob 4 [.int 0, .int 0, .int 0, .int 0, .int 0, .int 0])) q91 (hw_ob 4 [.int (nI v), .int 0, .int 0, .int 0, .int (nI 1 <<< (nI v &&& 31)), .int (-1)])) x = (va_up Mw1 q91 (hw_ob 4 [.int 0, .int 0, .int 0, .int 0, .int 0, .int 0])) x := fun x _ hx2 => va_up_ne _ _ hx2
      have hC2 := hc_add (e' := (.inl (Z.2.1 4, 6, .inr (.inr (.inr (.inr (va_up (hc_f (adw 8) v) v (some q91)))))))) (by decide) (hc_l8 Z) (fun ad k i _ _ => hc_s Z ad k i) hCw abw (hw_sn fMp_q15) hq91 hcf hcn hci hce hcF
      exact ih80 _ (hc_ad adw v cf) hC2 ((hw_us _ _ _).trans (congrArg (hw_ar Z 4 6) (by rw [← hcf]; exact hc_fs adw v cf 8))) (hc_frame abw hq91 hFw hcF) _ _ _ hI (lv_sub hl [0, 1] rfl)
  · intro Mp1 adp hCp hQp hFp H locs ls hI hl
    have gp_a := (hFp _ (hw_sn fMb_a) (hw_nn h0 hq6)).trans fMb_a
    have gp_q15 := (hFp _ (hw_sn fMb_q15) (Ne.symm (hw_nn (hw_up (hw_us _ _ _) (Ne.symm (hw_nn h0 hq6))) hq15))).trans fMb_q15
    have gp_q23 := (hFp _ (hw_sn fMb_q23) (Ne.symm (hw_nn (hw_up (hw_up (hw_up (hw_us _ _ _) (Ne.symm (hw_nn h0 hq6))) (hw_nn (hw_up (hw_us _ _ _) (Ne.symm (hw_nn h0 hq6))) hq15)) (Ne.symm (hw_nn h0 hq6))) hq23))).trans fMb_q23
    have gp_q30 := (hFp _ (hw_sn fMb_q30) (Ne.symm (hw_nn (hw_up (hw_up (hw_up (hw_up (hw_up (hw_us _ _ _) (Ne.symm (hw_nn h0 hq6))) (hw_nn (hw_up (hw_us _ _ _) (Ne.symm (hw_nn h0 hq6))) hq15)) (Ne.symm (hw_nn h0 hq6))) (hw_nn (hw_up (hw_up (hw_up (hw_us _ _ _) (Ne.symm (hw_nn h0 hq6))) (hw_nn (hw_up (hw_us _ _ _) (Ne.symm (hw_nn h0 hq6))) hq15)) (Ne.symm (hw_nn h0 hq6))) hq23)) (Ne.symm (hw_nn h0 hq6))) hq30))).trans fMb_q30
    have gp_ca_34 := (hFp _ (hw_sn fMb_ca_34) (Ne.symm g34_q6_ca_34)).trans fMb_ca_34
    have gp_ha_34 := (hFp _ (hw_sn fMb_ha_34) (Ne.symm g34_q6_ha_34)).trans fMb_ha_34
    have gp_sa_34 := (hFp _ (hw_sn fMb_sa_34) (Ne.symm g34_q6_sa_34)).trans fMb_sa_34
    have gp_q41 := (hFp _ (hw_sn fMb_q41) (Ne.symm (hw_nn (hw_up f34_q6 (Ne.symm (hw_nn h0 hq6))) hq41))).trans fMb_q41
    have gp_wa_45 := (hFp _ (hw_sn fMb_wa_45) (Ne.symm g45_q6_wa_45)).trans fMb_wa_45
    have abp : hw_alv Mb Mp1 := hw_alv_F (hw_alv_r Mb) hFp hQp
    have alp1 : hw_alv M Mp1 := fun x hx => abp x (alMb x hx)
    have frp1 : ∀ x, M x ≠ none → x ≠ a → Mp1 x = M x := fun x hx hxa => by rw [hFp x (alMb x hx) (hw_xn hx b_q6), frMb x hx hxa]
    refine lv_iload_n hx hb dX5_init_53 rfl (lv_at hl 0 rfl) ?_
    refine lv_iconst (v := nI 4) hx hb dX5_init_54 (by decide) ?_
    refine lv_icmp_ge (tgt := 78) hx hb dX5_init_55 (by decide) (fun hc => absurd hc (nI_ge hi53 (by decide))) (fun _ => ?_)
    refine lv_aload_n hx hb dX5_init_58 rfl (lv_at hl 1 rfl) ?_
    refine hw_get hx hb hts hown hk hI fd_X5_11 gp_a rfl dX5_init_59 ?_
    refine lv_iload_n hx hb dX5_init_62 rfl (lv_at hl 0 rfl) ?_
    refine hw_new hx hb hts hown hk hI fn_X5_9 (by first | exact Nat.le_of_ble_eq_true rfl | omega | (dsimp only; omega)) (by first | exact Nat.le_of_ble_eq_true rfl | omega | (dsimp only; omega)) dX5_init_63 (fun q63 H hq63 hI => ?_)
    have b_q63 : M q63 = none := hw_alv.n alp1 hq63
    refine lv_dup hx hb dX5_init_66 rfl ?_
    refine lv_iload_n hx hb dX5_init_67 rfl (lv_at hl 0 rfl) ?_
    refine hw_cv hI (hw_rI hx hb hml hown hts hk hI (m_X2_init l Z (va_up Mp1 q63 (hw_ob 3 [.int 0, .null, .null, .int 0, .int 0, .double 0, .int 0, .null, .int 0, .int 0, .int 0, .int 0, .int 0])) q63 v (hw_us _ _ _)) ci_X5_41 ⟨rfl, rfl⟩ ⟨(by first | exact Nat.le_of_ble_eq_true rfl | omega | (dsimp only; omega)), (by first | exact Nat.le_of_ble_eq_true rfl | omega | (dsimp only; omega))⟩ rfl hl.1 rfl (by first | exact Nat.le_of_ble_eq_true rfl | omega | (dsimp only; omega)) ⟨(by first | exact Nat.le_of_ble_eq_true rfl | omega | (dsimp only; omega)), (by first | exact Nat.le_of_ble_eq_true rfl | omega | (dsimp only; omega))⟩ dX5_init_68) (fun M68 H locs hR hI => ?_)
    obtain ⟨cf, hcf, hcn, hci, hce, hcF⟩ := hR
    have k_q6 := (hcF _ (hw_sn (hw_up hQp (hw_nn hQp hq63))) (hw_nn hQp hq63)).trans (hw_up hQp (hw_nn hQp hq63))
    have k_a := (hcF _ (hw_sn (hw_up gp_a (hw_nn gp_a hq63))) (hw_nn gp_a hq63)).trans (hw_up gp_a (hw_nn gp_a hq63))
    have k_q15 := (hcF _ (hw_sn (hw_up gp_q15 (hw_nn gp_q15 hq63))) (hw_nn gp_q15 hq63)).trans (hw_up gp_q15 (hw_nn gp_q15 hq63))
    have k_q23 := (hcF _ (hw_sn (hw_up gp_q23 (hw_nn gp_q23 hq63))) (hw_nn gp_q23 hq63)).trans (hw_up gp_q23 (hw_nn gp_q23 hq63))
    have k_q30 := (hcF _ (hw_sn (hw_up gp_q30 (hw_nn gp_q30 hq63))) (hw_nn gp_q30 hq63)).trans (hw_up gp_q30 (hw_nn gp_q30 hq63))
    have k_ca_34 := (hcF _ (hw_sn (hw_up gp_ca_34 (hw_nn gp_ca_34 hq63))) (hw_nn gp_ca_34 hq63)).trans (hw_up gp_ca_34 (hw_nn gp_ca_34 hq63))
    have k_ha_34 := (hcF _ (hw_sn (hw_up gp_ha_34 (hw_nn gp_ha_34 hq63))) (hw_nn gp_ha_34 hq63)).trans (hw_up gp_ha_34 (hw_nn gp_ha_34 hq63))
    have k_sa_34 := (hcF _ (hw_sn (hw_up gp_sa_34 (hw_nn gp_sa_34 hq63))) (hw_nn gp_sa_34 hq63)).trans (hw_up gp_sa_34 (hw_nn gp_sa_34 hq63))
    have k_q41 := (hcF _ (hw_sn (hw_up gp_q41 (hw_nn gp_q41 hq63))) (hw_nn gp_q41 hq63)).trans (hw_up gp_q41 (hw_nn gp_q41 hq63))
    have k_wa_45 := (hcF _ (hw_sn (hw_up gp_wa_45 (hw_nn gp_wa_45 hq63))) (hw_nn gp_wa_45 hq63)).trans (hw_up gp_wa_45 (hw_nn gp_wa_45 hq63))
    have e_q63 : M68 q63 = hw_ob 3 [.int (nI v), .ref (cf 2), .ref (cf 6), .int (hs_P hs_0 v 0), .int (nI (hs_D hs_0 v)), .double (hs_U hs_0 v), .int (hs_P hs_0 v 3), .null, .int (hs_P hs_0 v 5), .int (hs_P hs_0 v 6), .int (hs_P hs_0 v 7), .int (hs_P hs_0 v 8), .int (hs_P hs_0 v 9)] := by have z := hce 1 (by decide) (by decide); rw [hcf] at z; exact z
    refine hw_aast hx hb hk hI 3 k_q6 rfl e_q63 rfl (j := v) rfl (by omega) (by decide) dX5_init_71 (fun H locs hI => ?_)
    refine lv_iinc (v := nI (v + 1)) (lv' := [(1, .int (nI (v + 1))), (0, .ref a)]) hx hb dX5_init_72 hl (k := 0) rfl (hw_inc _) (by decide) rfl (fun ls hl => ?_)
    refine lv_goto (tgt := 53) hx hb dX5_init_75 (by decide) ?_
    refine hw_wr (cells1 := (7 * (v + 1) + 9)) (slots1 := (115 * (v + 1) + 106)) (by omega) (by omega) ?_
    have hC2 := hc_add (e' := (.inl (Z.2.1 3, 4, .inr (.inr (.inr (.inr (va_up (hc_f (adp 1) v) v (some q63)))))))) (by decide) (hc_l1 Z) (fun ad k i _ _ => hc_s Z ad k i) hCp abp (hw_sn fMb_q6) hq63 hcf hcn hci hce hcF
    exact ih53 _ (hc_ad adp v cf) hC2 ((hw_us _ _ _).trans (congrArg (hw_ar Z 3 4) (by rw [← hcf]; exact hc_fs adp v cf 1))) (hc_frame abp hq63 hFp hcF) _ _ _ hI (lv_sub hl [0, 1] rfl)
