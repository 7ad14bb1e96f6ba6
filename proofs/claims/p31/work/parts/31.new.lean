theorem fp_X3_9 : hw_FP RX3 9 4 5 (.int) false := ⟨RX3, TX3, 6, "MeltPool$Powder", tyX3, rfl, by decide, iw_X3, (hw_win (w := .fieldLink RX3 9 "MeltPool$Powder" (TX3 5).2.1 (TX3 5).2.2.1) (by decide +kernel) (by decide +kernel)), Or.inl rfl, tyX3_ok, nmX3, rfl, (fun h => by cases h), by decide +kernel⟩
theorem fp_X3_15 : hw_FP RX3 15 4 0 (.int) true := ⟨RX3, TX3, 6, "MeltPool$Powder", tyX3, rfl, by decide, iw_X3, (hw_win (w := .fieldLink RX3 15 "MeltPool$Powder" (TX3 0).2.1 (TX3 0).2.2.1) (by decide +kernel) (by decide +kernel)), Or.inl rfl, tyX3_ok, nmX3, rfl, (fun _ => by decide +kernel), by decide +kernel⟩
theorem fp_X1_9 : hw_FP RX1 9 2 0 (.array .double) true := ⟨RX1, TX1, 3, "MeltPool$Melt", tyX1, rfl, by decide, iw_X1, (hw_win (w := .fieldLink RX1 9 "MeltPool$Melt" (TX1 0).2.1 (TX1 0).2.2.1) (by decide +kernel) (by decide +kernel)), Or.inl rfl, tyX1_ok, nmX1, rfl, (fun _ => by decide +kernel), by decide +kernel⟩
theorem fp_X0_15 : hw_FP RX0 15 1 5 (.array .int) true := ⟨RX0, TX0, 7, "MeltPool$Machine", tyX0, rfl, by decide, iw_X0, (hw_win (w := .fieldLink RX0 15 "MeltPool$Machine" (TX0 5).2.1 (TX0 5).2.2.1) (by decide +kernel) (by decide +kernel)), Or.inl rfl, tyX0_ok, nmX0, rfl, (fun _ => by decide +kernel), by decide +kernel⟩
theorem fp_X0_19 : hw_FP RX0 19 1 0 (.int) true := ⟨RX0, TX0, 7, "MeltPool$Machine", tyX0, rfl, by decide, iw_X0, (hw_win (w := .fieldLink RX0 19 "MeltPool$Machine" (TX0 0).2.1 (TX0 0).2.2.1) (by decide +kernel) (by decide +kernel)), Or.inl rfl, tyX0_ok, nmX0, rfl, (fun _ => by decide +kernel), by decide +kernel⟩
theorem fp_X4_9 : hw_FP RX4 9 5 0 (.array .long) true := ⟨RX4, TX4, 3, "MeltPool$Solid", tyX4, rfl, by decide, iw_X4, (hw_win (w := .fieldLink RX4 9 "MeltPool$Solid" (TX4 0).2.1 (TX4 0).2.2.1) (by decide +kernel) (by decide +kernel)), Or.inl rfl, tyX4_ok, nmX4, rfl, (fun _ => by decide +kernel), by decide +kernel⟩
theorem fp_X4_15 : hw_FP RX4 15 5 1 (.array .long) true := ⟨RX4, TX4, 3, "MeltPool$Solid", tyX4, rfl, by decide, iw_X4, (hw_win (w := .fieldLink RX4 15 "MeltPool$Solid" (TX4 1).2.1 (TX4 1).2.2.1) (by decide +kernel) (by decide +kernel)), Or.inl rfl, tyX4_ok, nmX4, rfl, (fun _ => by decide +kernel), by decide +kernel⟩
theorem fp_X4_18 : hw_FP RX4 18 5 2 (.array .long) true := ⟨RX4, TX4, 3, "MeltPool$Solid", tyX4, rfl, by decide, iw_X4, (hw_win (w := .fieldLink RX4 18 "MeltPool$Solid" (TX4 2).2.1 (TX4 2).2.2.1) (by decide +kernel) (by decide +kernel)), Or.inl rfl, tyX4_ok, nmX4, rfl, (fun _ => by decide +kernel), by decide +kernel⟩
theorem fn_X2_9 : hw_FN RX2 9 5 3 [.null, .null, .null] := ⟨RX4, TX4, tyX4, rfl, iw_X4, tyX4_ok, (hw_win (w := .classLink RX2 9 RX4) (by decide +kernel) (by decide +kernel)), (hw_win (w := .instantiable RX4 3) (by decide +kernel) (by decide +kernel)), (hw_win (w := .initialized RX4) (by decide +kernel) (by decide +kernel)), fun j hj => by rcases (show j = 0 ∨ j = 1 ∨ j = 2 by omega) with rfl | rfl | rfl <;> rfl⟩
theorem cb_X4_init (own : String) (index : Nat) : hw_CB own index yX4_init cX4_init 1 none 0 := ⟨⟨by decide +kernel, by decide +kernel, by decide +kernel⟩, (hw_win (w := .code yX4_init cX4_init 1 none) (by decide +kernel) (by decide +kernel)), (hw_win (w := .initialized yX4_init.cls) (by decide +kernel) (by decide +kernel))⟩
theorem cn_X2_11 : hw_CIN RX2 11 yX4_init "MeltPool" cX4_init 1 0 := ⟨cb_X4_init _ _, by decide +kernel, (hw_win (w := .instanceMethod yX4_init) (by decide +kernel) (by decide +kernel)), rfl⟩
theorem fp_X2_12 : hw_FP RX2 12 3 1 (.object "MeltPool$Solid") true := ⟨RX2, TX2, 13, "MeltPool$Piece", tyX2, rfl, by decide, iw_X2, (hw_win (w := .fieldLink RX2 12 "MeltPool$Piece" (TX2 1).2.1 (TX2 1).2.2.1) (by decide +kernel) (by decide +kernel)), Or.inl rfl, tyX2_ok, nmX2, rfl, (fun _ => by decide +kernel), by decide +kernel⟩
theorem fn_X2_18 : hw_FN RX2 18 2 3 [.null, .int 0, .int 0] := ⟨RX1, TX1, tyX1, rfl, iw_X1, tyX1_ok, (hw_win (w := .classLink RX2 18 RX1) (by decide +kernel) (by decide +kernel)), (hw_win (w := .instantiable RX1 3) (by decide +kernel) (by decide +kernel)), (hw_win (w := .initialized RX1) (by decide +kernel) (by decide +kernel)), fun j hj => by rcases (show j = 0 ∨ j = 1 ∨ j = 2 by omega) with rfl | rfl | rfl <;> rfl⟩
theorem cb_X1_init (own : String) (index : Nat) : hw_CB own index yX1_init cX1_init 1 none 0 := ⟨⟨by decide +kernel, by decide +kernel, by decide +kernel⟩, (hw_win (w := .code yX1_init cX1_init 1 none) (by decide +kernel) (by decide +kernel)), (hw_win (w := .initialized yX1_init.cls) (by decide +kernel) (by decide +kernel))⟩
theorem cn_X2_20 : hw_CIN RX2 20 yX1_init "MeltPool" cX1_init 1 0 := ⟨cb_X1_init _ _, by decide +kernel, (hw_win (w := .instanceMethod yX1_init) (by decide +kernel) (by decide +kernel)), rfl⟩
theorem fp_X2_21 : hw_FP RX2 21 3 2 (.object "MeltPool$Melt") true := ⟨RX2, TX2, 13, "MeltPool$Piece", tyX2, rfl, by decide, iw_X2, (hw_win (w := .fieldLink RX2 21 "MeltPool$Piece" (TX2 2).2.1 (TX2 2).2.2.1) (by decide +kernel) (by decide +kernel)), Or.inl rfl, tyX2_ok, nmX2, rfl, (fun _ => by decide +kernel), by decide +kernel⟩
theorem fp_X2_44 : hw_FP RX2 44 3 0 (.int) true := ⟨RX2, TX2, 13, "MeltPool$Piece", tyX2, rfl, by decide, iw_X2, (hw_win (w := .fieldLink RX2 44 "MeltPool$Piece" (TX2 0).2.1 (TX2 0).2.2.1) (by decide +kernel) (by decide +kernel)), Or.inl rfl, tyX2_ok, nmX2, rfl, (fun _ => by decide +kernel), by decide +kernel⟩
set_option maxHeartbeats 4000000 in
set_option maxRecDepth 100000 in
theorem m_X3_init (l : Launch) (Z : hw_Z) (M : hw_M) (a : Nat) (n : Nat) (h0 : M a = hw_ob 4 [.int 0, .int 0, .int 0, .int 0, .int 0, .int 0]) : Met l yX3_init (hw_m yX3_init cX3_init 2 none) ({ frames := 2, cells := 0, slots := 0, locals := 40 } : Room) (va_Pc [.ref a, .int (nI n)] (hw_P Z M)) (hw_Qv Z (fun M' => va_up M a (hw_ob 4 [.int (nI n), .int 0, .int 0, .int 0, .int (nI 1 <<< (nI n &&& 31)), .int (-1)]) = M')) 0 0 (hw_A Z) := by
  refine hw_ofv (by decide +kernel) rfl (Nat.le_of_ble_eq_true rfl) ?_
  intro p e s m below meth c ls Q hx hb hml hown hts hk hnm hI hl hret
  refine lv_aload_n hx hb dX3_init_0 rfl (lv_at hl 0 rfl) ?_
  refine W.objInit hx hb hown (hts _ (hw_win (w := .methodLink RX3 3 objectInit) (by decide +kernel) (by decide +kernel))) (hts _ (hw_win (w := .instanceMethod objectInit) (by decide +kernel) (by decide +kernel))) (hts _ (hw_win (w := .code objectInit ⟨#[0xb1]⟩ 1 none) (by decide +kernel) (by decide +kernel))) rfl (by rw [hml]; exact hl.1) rfl dX3_init_1 (Nat.le_of_ble_eq_true rfl) (Nat.le_of_ble_eq_true rfl) ?_
  refine W.eq (g2 := F0 m 4 ls []) rfl ?_
  refine lv_aload_n hx hb dX3_init_4 rfl (lv_at hl 0 rfl) ?_
  refine lv_iconst (v := (-1)) hx hb dX3_init_5 (by decide) ?_
  refine hw_put (fs' := [.int 0, .int 0, .int 0, .int 0, .int 0, .int (-1)]) hx hb hts hown hk hI fp_X3_9 h0 (Nat.le_of_ble_eq_true rfl) rfl rfl rfl dX3_init_6 (fun H locs hI => ?_)
  refine lv_aload_n hx hb dX3_init_9 rfl (lv_at hl 0 rfl) ?_
  refine lv_iload_n hx hb dX3_init_10 rfl (lv_at hl 1 rfl) ?_
  refine hw_putF (fs' := [.int (nI n), .int 0, .int 0, .int 0, .int 0, .int (-1)]) hx hb hts hown hnm hk hI fp_X3_15 (hw_us _ _ _) (Nat.le_of_ble_eq_true rfl) rfl rfl rfl dX3_init_11 (fun H locs hI => ?_)
  refine lv_aload_n hx hb dX3_init_14 rfl (lv_at hl 0 rfl) ?_
  refine lv_iconst (v := nI 1) hx hb dX3_init_15 (by decide) ?_
  refine lv_iload_n hx hb dX3_init_16 rfl (lv_at hl 1 rfl) ?_
  refine lv_ishl hx hb dX3_init_17 ?_
  refine hw_put (fs' := [.int (nI n), .int 0, .int 0, .int 0, .int ((nI 1) <<< ((nI n) &&& 31)), .int (-1)]) hx hb hts hown hk hI fp_X3_18 (hw_us _ _ _) (Nat.le_of_ble_eq_true rfl) rfl rfl rfl dX3_init_18 (fun H locs hI => ?_)
  exact hret hI (by simp only [bx_uu]) (Nat.le_of_ble_eq_true rfl) (Nat.le_of_ble_eq_true rfl) dX3_init_21

set_option maxHeartbeats 4000000 in
set_option maxRecDepth 100000 in
theorem m_X1_init (l : Launch) (Z : hw_Z) (M : hw_M) (a : Nat) (h0 : M a = hw_ob 2 [.null, .int 0, .int 0]) : Met l yX1_init (hw_m yX1_init cX1_init 1 none) ({ frames := 3, cells := 1, slots := 64, locals := 80 } : Room) (va_Pc [.ref a] (hw_P Z M)) (hw_Qv Z (fun M' => ∃ (wa : Nat), (M wa = none) ∧ (True) ∧ (M' wa = hw_ad Z 64 (fun _ => 0)) ∧ M' a = hw_ob 2 [.ref wa, .int 0, .int 0] ∧ ∀ x, M x ≠ none → x ≠ a → M' x = M x)) 1 64 (hw_A Z) := by
  refine hw_ofv (by decide +kernel) rfl (Nat.le_of_ble_eq_true rfl) ?_
  intro p e s m below meth c ls Q hx hb hml hown hts hk hnm hI hl hret
  refine lv_aload_n hx hb dX1_init_0 rfl (lv_at hl 0 rfl) ?_
  refine W.objInit hx hb hown (hts _ (hw_win (w := .methodLink RX1 3 objectInit) (by decide +kernel) (by decide +kernel))) (hts _ (hw_win (w := .instanceMethod objectInit) (by decide +kernel) (by decide +kernel))) (hts _ (hw_win (w := .code objectInit ⟨#[0xb1]⟩ 1 none) (by decide +kernel) (by decide +kernel))) rfl (by rw [hml]; exact hl.1) rfl dX1_init_1 (Nat.le_of_ble_eq_true rfl) (Nat.le_of_ble_eq_true rfl) ?_
  refine W.eq (g2 := F0 m 4 ls []) rfl ?_
  refine lv_aload_n hx hb dX1_init_4 rfl (lv_at hl 0 rfl) ?_
  refine lv_bipush (v := nI 64) hx hb dX1_init_5 (by decide) ?_
  refine hw_newa (a0 := (64, .inr (.inr (.inr (.inl (fun _ => 0)))))) hx hb hts hk hI (atype := .double) (hw_win (w := .arrayClass .double) (by decide +kernel) (by decide +kernel)) rfl 2 rfl (fun _ h => by cases h) (fun _ => rfl) rfl (by decide) (by decide) (Nat.le_of_ble_eq_true rfl) (Nat.le_of_ble_eq_true rfl) dX1_init_7 (fun q7 H hq7 hI => ?_)
  have b_q7 : M q7 = none := hw_alv.n (hw_alv_r M) hq7
  refine hw_putF (fs' := [.ref q7, .int 0, .int 0]) hx hb hts hown hnm hk hI fp_X1_9 (hw_up h0 (hw_nn h0 hq7)) (Nat.le_of_ble_eq_true rfl) rfl rfl rfl dX1_init_9 (fun H locs hI => ?_)
  have hfin : (fun M' => ∃ (wa : Nat), (M wa = none) ∧ (True) ∧ (M' wa = hw_ad Z 64 (fun _ => 0)) ∧ M' a = hw_ob 2 [.ref wa, .int 0, .int 0] ∧ ∀ x, M x ≠ none → x ≠ a → M' x = M x) (va_up (va_up M q7 (hw_ad Z 64 (fun _ => 0))) a (hw_ob 2 [.ref q7, .int 0, .int 0])) := ⟨q7, b_q7, trivial, hw_up (hw_us _ _ _) (Ne.symm (hw_nn h0 hq7)), hw_us _ _ _, fun x hx hxa => by rw [va_up_ne _ _ hxa, va_up_ne _ _ (hw_xn hx b_q7)]⟩
  exact hret hI hfin (Nat.le_of_ble_eq_true rfl) (Nat.le_of_ble_eq_true rfl) dX1_init_12

set_option maxHeartbeats 4000000 in
set_option maxRecDepth 100000 in
theorem m_X0_init (l : Launch) (Z : hw_Z) (M : hw_M) (a : Nat) (n : Nat) (h0 : M a = hw_ob 1 [.int 0, .int 0, .null, .int 0, .null, .null, .int 0]) : Met l yX0_init (hw_m yX0_init cX0_init 2 none) ({ frames := 3, cells := 1, slots := 4, locals := 80 } : Room) (va_Pc [.ref a, .int (nI n)] (hw_P Z M)) (hw_Qv Z (fun M' => ∃ (pa : Nat), (M pa = none) ∧ (True) ∧ (M' pa = hw_ai Z 4 (fun _ => 0)) ∧ M' a = hw_ob 1 [.int (nI n), .int (-1), .null, .int 0, .null, .ref pa, .int 0] ∧ ∀ x, M x ≠ none → x ≠ a → M' x = M x)) 1 4 (hw_A Z) := by
  refine hw_ofv (by decide +kernel) rfl (Nat.le_of_ble_eq_true rfl) ?_
  intro p e s m below meth c ls Q hx hb hml hown hts hk hnm hI hl hret
  refine lv_aload_n hx hb dX0_init_0 rfl (lv_at hl 0 rfl) ?_
  refine W.objInit hx hb hown (hts _ (hw_win (w := .methodLink RX0 3 objectInit) (by decide +kernel) (by decide +kernel))) (hts _ (hw_win (w := .instanceMethod objectInit) (by decide +kernel) (by decide +kernel))) (hts _ (hw_win (w := .code objectInit ⟨#[0xb1]⟩ 1 none) (by decide +kernel) (by decide +kernel))) rfl (by rw [hml]; exact hl.1) rfl dX0_init_1 (Nat.le_of_ble_eq_true rfl) (Nat.le_of_ble_eq_true rfl) ?_
  refine W.eq (g2 := F0 m 4 ls []) rfl ?_
  refine lv_aload_n hx hb dX0_init_4 rfl (lv_at hl 0 rfl) ?_
  refine lv_iconst (v := (-1)) hx hb dX0_init_5 (by decide) ?_
  refine hw_put (fs' := [.int 0, .int (-1), .null, .int 0, .null, .null, .int 0]) hx hb hts hown hk hI fp_X0_9 h0 (Nat.le_of_ble_eq_true rfl) rfl rfl rfl dX0_init_6 (fun H locs hI => ?_)
  refine lv_aload_n hx hb dX0_init_9 rfl (lv_at hl 0 rfl) ?_
  refine lv_iconst (v := nI 4) hx hb dX0_init_10 (by decide) ?_
  refine hw_newa (a0 := (4, .inl (fun _ => 0))) hx hb hts hk hI (atype := .int) (hw_win (w := .arrayClass .int) (by decide +kernel) (by decide +kernel)) rfl 0 rfl (fun _ h => by cases h) (fun _ => rfl) rfl (by decide) (by decide) (Nat.le_of_ble_eq_true rfl) (Nat.le_of_ble_eq_true rfl) dX0_init_11 (fun q11 H hq11 hI => ?_)
  have b_q11 : M q11 = none := hw_alv.n (hw_alv_u (hw_alv_r M)) hq11
  refine hw_putF (fs' := [.int 0, .int (-1), .null, .int 0, .null, .ref q11, .int 0]) hx hb hts hown hnm hk hI fp_X0_15 (hw_up (hw_us _ _ _) (hw_nn (hw_us _ _ _) hq11)) (Nat.le_of_ble_eq_true rfl) rfl rfl rfl dX0_init_13 (fun H locs hI => ?_)
  refine lv_aload_n hx hb dX0_init_16 rfl (lv_at hl 0 rfl) ?_
  refine lv_iload_n hx hb dX0_init_17 rfl (lv_at hl 1 rfl) ?_
  refine hw_putF (fs' := [.int (nI n), .int (-1), .null, .int 0, .null, .ref q11, .int 0]) hx hb hts hown hnm hk hI fp_X0_19 (hw_us _ _ _) (Nat.le_of_ble_eq_true rfl) rfl rfl rfl dX0_init_18 (fun H locs hI => ?_)
  have hfin : (fun M' => ∃ (pa : Nat), (M pa = none) ∧ (True) ∧ (M' pa = hw_ai Z 4 (fun _ => 0)) ∧ M' a = hw_ob 1 [.int (nI n), .int (-1), .null, .int 0, .null, .ref pa, .int 0] ∧ ∀ x, M x ≠ none → x ≠ a → M' x = M x) (va_up (va_up (va_up (va_up M a (hw_ob 1 [.int 0, .int (-1), .null, .int 0, .null, .null, .int 0])) q11 (hw_ai Z 4 (fun _ => 0))) a (hw_ob 1 [.int 0, .int (-1), .null, .int 0, .null, .ref q11, .int 0])) a (hw_ob 1 [.int (nI n), .int (-1), .null, .int 0, .null, .ref q11, .int 0])) := ⟨q11, b_q11, trivial, hw_up (hw_up (hw_us _ _ _) (Ne.symm (hw_nn (hw_us _ _ _) hq11))) (Ne.symm (hw_nn (hw_us _ _ _) hq11)), hw_us _ _ _, fun x hx hxa => by rw [va_up_ne _ _ hxa, va_up_ne _ _ hxa, va_up_ne _ _ (hw_xn hx b_q11), va_up_ne _ _ hxa]⟩
  exact hret hI hfin (Nat.le_of_ble_eq_true rfl) (Nat.le_of_ble_eq_true rfl) dX0_init_21

set_option maxHeartbeats 4000000 in
set_option maxRecDepth 100000 in
theorem m_X4_init (l : Launch) (Z : hw_Z) (M : hw_M) (a : Nat) (h0 : M a = hw_ob 5 [.null, .null, .null]) : Met l yX4_init (hw_m yX4_init cX4_init 1 none) ({ frames := 3, cells := 3, slots := 24, locals := 80 } : Room) (va_Pc [.ref a] (hw_P Z M)) (hw_Qv Z (fun M' => ∃ (ca : Nat) (ha : Nat) (sa : Nat), (M ca = none ∧ M ha = none ∧ M sa = none) ∧ (ca ≠ ha ∧ ca ≠ sa ∧ ha ≠ sa) ∧ (M' ca = hw_al Z 8 (fun _ => 0) ∧ M' ha = hw_al Z 8 (fun _ => 0) ∧ M' sa = hw_al Z 8 (fun _ => 0)) ∧ M' a = hw_ob 5 [.ref ca, .ref ha, .ref sa] ∧ ∀ x, M x ≠ none → x ≠ a → M' x = M x)) 3 24 (hw_A Z) := by
  refine hw_ofv (by decide +kernel) rfl (Nat.le_of_ble_eq_true rfl) ?_
  intro p e s m below meth c ls Q hx hb hml hown hts hk hnm hI hl hret
  refine lv_aload_n hx hb dX4_init_0 rfl (lv_at hl 0 rfl) ?_
  refine W.objInit hx hb hown (hts _ (hw_win (w := .methodLink RX4 3 objectInit) (by decide +kernel) (by decide +kernel))) (hts _ (hw_win (w := .instanceMethod objectInit) (by decide +kernel) (by decide +kernel))) (hts _ (hw_win (w := .code objectInit ⟨#[0xb1]⟩ 1 none) (by decide +kernel) (by decide +kernel))) rfl (by rw [hml]; exact hl.1) rfl dX4_init_1 (Nat.le_of_ble_eq_true rfl) (Nat.le_of_ble_eq_true rfl) ?_
  refine W.eq (g2 := F0 m 4 ls []) rfl ?_
  refine lv_aload_n hx hb dX4_init_4 rfl (lv_at hl 0 rfl) ?_
  refine lv_bipush (v := nI 8) hx hb dX4_init_5 (by decide) ?_
  refine hw_newa (a0 := (8, .inr (.inl (fun _ => 0)))) hx hb hts hk hI (atype := .long) (hw_win (w := .arrayClass .long) (by decide +kernel) (by decide +kernel)) rfl 1 rfl (fun _ h => by cases h) (fun _ => rfl) rfl (by decide) (by decide) (Nat.le_of_ble_eq_true rfl) (Nat.le_of_ble_eq_true rfl) dX4_init_7 (fun q7 H hq7 hI => ?_)
  have b_q7 : M q7 = none := hw_alv.n (hw_alv_r M) hq7
  refine hw_putF (fs' := [.ref q7, .null, .null]) hx hb hts hown hnm hk hI fp_X4_9 (hw_up h0 (hw_nn h0 hq7)) (Nat.le_of_ble_eq_true rfl) rfl rfl rfl dX4_init_9 (fun H locs hI => ?_)
  refine lv_aload_n hx hb dX4_init_12 rfl (lv_at hl 0 rfl) ?_
  refine lv_bipush (v := nI 8) hx hb dX4_init_13 (by decide) ?_
  refine hw_newa (a0 := (8, .inr (.inl (fun _ => 0)))) hx hb hts hk hI (atype := .long) (hw_win (w := .arrayClass .long) (by decide +kernel) (by decide +kernel)) rfl 1 rfl (fun _ h => by cases h) (fun _ => rfl) rfl (by decide) (by decide) (Nat.le_of_ble_eq_true rfl) (Nat.le_of_ble_eq_true rfl) dX4_init_15 (fun q15 H hq15 hI => ?_)
  have b_q15 : M q15 = none := hw_alv.n (hw_alv_u (hw_alv_u (hw_alv_r M))) hq15
  refine hw_putF (fs' := [.ref q7, .ref q15, .null]) hx hb hts hown hnm hk hI fp_X4_15 (hw_up (hw_us _ _ _) (hw_nn (hw_us _ _ _) hq15)) (Nat.le_of_ble_eq_true rfl) rfl rfl rfl dX4_init_17 (fun H locs hI => ?_)
  refine lv_aload_n hx hb dX4_init_20 rfl (lv_at hl 0 rfl) ?_
  refine lv_bipush (v := nI 8) hx hb dX4_init_21 (by decide) ?_
  refine hw_newa (a0 := (8, .inr (.inl (fun _ => 0)))) hx hb hts hk hI (atype := .long) (hw_win (w := .arrayClass .long) (by decide +kernel) (by decide +kernel)) rfl 1 rfl (fun _ h => by cases h) (fun _ => rfl) rfl (by decide) (by decide) (Nat.le_of_ble_eq_true rfl) (Nat.le_of_ble_eq_true rfl) dX4_init_23 (fun q23 H hq23 hI => ?_)
  have b_q23 : M q23 = none := hw_alv.n (hw_alv_u (hw_alv_u (hw_alv_u (hw_alv_u (hw_alv_r M))))) hq23
  refine hw_putF (fs' := [.ref q7, .ref q15, .ref q23]) hx hb hts hown hnm hk hI fp_X4_18 (hw_up (hw_us _ _ _) (hw_nn (hw_us _ _ _) hq23)) (Nat.le_of_ble_eq_true rfl) rfl rfl rfl dX4_init_25 (fun H locs hI => ?_)
  have hfin : (fun M' => ∃ (ca : Nat) (ha : Nat) (sa : Nat), (M ca = none ∧ M ha = none ∧ M sa = none) ∧ (ca ≠ ha ∧ ca ≠ sa ∧ ha ≠ sa) ∧ (M' ca = hw_al Z 8 (fun _ => 0) ∧ M' ha = hw_al Z 8 (fun _ => 0) ∧ M' sa = hw_al Z 8 (fun _ => 0)) ∧ M' a = hw_ob 5 [.ref ca, .ref ha, .ref sa] ∧ ∀ x, M x ≠ none → x ≠ a → M' x = M x) (va_up (va_up (va_up (va_up (va_up (va_up M q7 (hw_al Z 8 (fun _ => 0))) a (hw_ob 5 [.ref q7, .null, .null])) q15 (hw_al Z 8 (fun _ => 0))) a (hw_ob 5 [.ref q7, .ref q15, .null])) q23 (hw_al Z 8 (fun _ => 0))) a (hw_ob 5 [.ref q7, .ref q15, .ref q23])) := ⟨q7, q15, q23, ⟨b_q7, b_q15, b_q23⟩, ⟨(hw_nn (hw_up (hw_us _ _ _) (Ne.symm (hw_nn h0 hq7))) hq15), (hw_nn (hw_up (hw_up (hw_up (hw_us _ _ _) (Ne.symm (hw_nn h0 hq7))) (hw_nn (hw_up (hw_us _ _ _) (Ne.symm (hw_nn h0 hq7))) hq15)) (Ne.symm (hw_nn h0 hq7))) hq23), (hw_nn (hw_up (hw_us _ _ _) (Ne.symm (hw_nn (hw_us _ _ _) hq15))) hq23)⟩, ⟨hw_up (hw_up (hw_up (hw_up (hw_up (hw_us _ _ _) (Ne.symm (hw_nn h0 hq7))) (hw_nn (hw_up (hw_us _ _ _) (Ne.symm (hw_nn h0 hq7))) hq15)) (Ne.symm (hw_nn h0 hq7))) (hw_nn (hw_up (hw_up (hw_up (hw_us _ _ _) (Ne.symm (hw_nn h0 hq7))) (hw_nn (hw_up (hw_us _ _ _) (Ne.symm (hw_nn h0 hq7))) hq15)) (Ne.symm (hw_nn h0 hq7))) hq23)) (Ne.symm (hw_nn h0 hq7)), hw_up (hw_up (hw_up (hw_us _ _ _) (Ne.symm (hw_nn (hw_us _ _ _) hq15))) (hw_nn (hw_up (hw_us _ _ _) (Ne.symm (hw_nn (hw_us _ _ _) hq15))) hq23)) (Ne.symm (hw_nn (hw_us _ _ _) hq15)), hw_up (hw_us _ _ _) (Ne.symm (hw_nn (hw_us _ _ _) hq23))⟩, hw_us _ _ _, fun x hx hxa => by rw [va_up_ne _ _ hxa, va_up_ne _ _ (hw_xn hx b_q23), va_up_ne _ _ hxa, va_up_ne _ _ (hw_xn hx b_q15), va_up_ne _ _ hxa, va_up_ne _ _ (hw_xn hx b_q7)]⟩
  exact hret hI hfin (Nat.le_of_ble_eq_true rfl) (Nat.le_of_ble_eq_true rfl) dX4_init_28

set_option maxHeartbeats 4000000 in
set_option maxRecDepth 100000 in
theorem m_X2_init (l : Launch) (Z : hw_Z) (M : hw_M) (a : Nat) (n : Nat) (h0 : M a = hw_ob 3 [.int 0, .null, .null, .int 0, .int 0, .double 0, .int 0, .null, .int 0, .int 0, .int 0, .int 0, .int 0]) : Met l yX2_init (hw_m yX2_init cX2_init 2 none) ({ frames := 6, cells := 6, slots := 102, locals := 160 } : Room) (va_Pc [.ref a, .int (nI n)] (hw_P Z M)) (hw_Qv Z (fun M' => ∃ cf : Nat → Nat, cf 1 = a ∧ (∀ k, 2 ≤ k → k ≤ 7 → M (cf k) = none) ∧ (∀ k j, 1 ≤ k → k ≤ 7 → 1 ≤ j → j ≤ 7 → cf k = cf j → k = j) ∧ (∀ k, 1 ≤ k → k ≤ 7 → M' (cf k) = hp_e Z (fun k _ => cf k) hs_0 hp_T0 k n) ∧ ∀ x, M x ≠ none → x ≠ a → M' x = M x)) 6 102 (hw_A Z) := by
  refine hw_ofv (by decide +kernel) rfl (Nat.le_of_ble_eq_true rfl) ?_
  intro p e s m below meth c ls Q hx hb hml hown hts hk hnm hI hl hret
  refine lv_aload_n hx hb dX2_init_0 rfl (lv_at hl 0 rfl) ?_
  refine W.objInit hx hb hown (hts _ (hw_win (w := .methodLink RX2 3 objectInit) (by decide +kernel) (by decide +kernel))) (hts _ (hw_win (w := .instanceMethod objectInit) (by decide +kernel) (by decide +kernel))) (hts _ (hw_win (w := .code objectInit ⟨#[0xb1]⟩ 1 none) (by decide +kernel) (by decide +kernel))) rfl (by rw [hml]; exact hl.1) rfl dX2_init_1 (Nat.le_of_ble_eq_true rfl) (Nat.le_of_ble_eq_true rfl) ?_
  refine W.eq (g2 := F0 m 4 ls []) rfl ?_
  refine lv_aload_n hx hb dX2_init_4 rfl (lv_at hl 0 rfl) ?_
  refine hw_new hx hb hts hown hk hI fn_X2_9 (Nat.le_of_ble_eq_true rfl) (Nat.le_of_ble_eq_true rfl) dX2_init_5 (fun q5 H hq5 hI => ?_)
  have b_q5 : M q5 = none := hw_alv.n (hw_alv_r M) hq5
  refine lv_dup hx hb dX2_init_8 rfl ?_
  refine hw_cv hI (hw_rIN hx hb hml hown hts hk hI (m_X4_init l Z (va_up M q5 (hw_ob 5 [.null, .null, .null])) q5 (hw_us _ _ _)) cn_X2_11 ⟨rfl, rfl⟩ ⟨(Nat.le_of_ble_eq_true rfl), (Nat.le_of_ble_eq_true rfl)⟩ rfl hl.1 rfl (Nat.le_of_ble_eq_true rfl) ⟨(Nat.le_of_ble_eq_true rfl), (Nat.le_of_ble_eq_true rfl)⟩ dX2_init_9) (fun M9 H locs hR hI => ?_)
  obtain ⟨ca_9, ha_9, sa_9, ⟨hn_ca_9, hn_ha_9, hn_sa_9⟩, hd9, ⟨he_ca_9, he_ha_9, he_sa_9⟩, ha9, hF9⟩ := hR
  have f9_a := (hF9 _ (hw_sn (hw_up h0 (hw_nn h0 hq5))) (hw_nn h0 hq5)).trans (hw_up h0 (hw_nn h0 hq5))
  have g9_a_ca_9 : a ≠ ca_9 := hw_xn (hw_sn (hw_up h0 (hw_nn h0 hq5))) hn_ca_9
  have g9_a_ha_9 : a ≠ ha_9 := hw_xn (hw_sn (hw_up h0 (hw_nn h0 hq5))) hn_ha_9
  have g9_a_sa_9 : a ≠ sa_9 := hw_xn (hw_sn (hw_up h0 (hw_nn h0 hq5))) hn_sa_9
  have g9_q5_ca_9 : q5 ≠ ca_9 := hw_xn (hw_sn (hw_us _ _ _)) hn_ca_9
  have g9_q5_ha_9 : q5 ≠ ha_9 := hw_xn (hw_sn (hw_us _ _ _)) hn_ha_9
  have g9_q5_sa_9 : q5 ≠ sa_9 := hw_xn (hw_sn (hw_us _ _ _)) hn_sa_9
  have b_ca_9 : M ca_9 = none := hw_alv.n (hw_alv_u (hw_alv_r M)) hn_ca_9
  have b_ha_9 : M ha_9 = none := hw_alv.n (hw_alv_u (hw_alv_r M)) hn_ha_9
  have b_sa_9 : M sa_9 = none := hw_alv.n (hw_alv_u (hw_alv_r M)) hn_sa_9
  have al9 : hw_alv M M9 := hw_alv_F (hw_alv_u (hw_alv_r M)) hF9 ha9
  have fr9 : ∀ x, M x ≠ none → x ≠ a → M9 x = M x := fun x hx hxa => by rw [hF9 x ((hw_alv_u (hw_alv_r M)) x hx) (hw_xn hx b_q5), va_up_ne _ _ (hw_xn hx b_q5)]
  refine hw_putF (fs' := [.int 0, .ref q5, .null, .int 0, .int 0, .double 0, .int 0, .null, .int 0, .int 0, .int 0, .int 0, .int 0]) hx hb hts hown hnm hk hI fp_X2_12 f9_a (Nat.le_of_ble_eq_true rfl) rfl rfl rfl dX2_init_12 (fun H locs hI => ?_)
  refine lv_aload_n hx hb dX2_init_15 rfl (lv_at hl 0 rfl) ?_
  refine hw_new hx hb hts hown hk hI fn_X2_18 (Nat.le_of_ble_eq_true rfl) (Nat.le_of_ble_eq_true rfl) dX2_init_16 (fun q16 H hq16 hI => ?_)
  have b_q16 : M q16 = none := hw_alv.n (hw_alv_u al9) hq16
  refine lv_dup hx hb dX2_init_19 rfl ?_
  refine hw_cv hI (hw_rIN hx hb hml hown hts hk hI (m_X1_init l Z (va_up (va_up M9 a (hw_ob 3 [.int 0, .ref q5, .null, .int 0, .int 0, .double 0, .int 0, .null, .int 0, .int 0, .int 0, .int 0, .int 0])) q16 (hw_ob 2 [.null, .int 0, .int 0])) q16 (hw_us _ _ _)) cn_X2_20 ⟨rfl, rfl⟩ ⟨(Nat.le_of_ble_eq_true rfl), (Nat.le_of_ble_eq_true rfl)⟩ rfl hl.1 rfl (Nat.le_of_ble_eq_true rfl) ⟨(Nat.le_of_ble_eq_true rfl), (Nat.le_of_ble_eq_true rfl)⟩ dX2_init_20) (fun M20 H locs hR hI => ?_)
  obtain ⟨wa_20, hn_wa_20, hd20, he_wa_20, ha20, hF20⟩ := hR
  have f20_a := (hF20 _ (hw_sn (hw_up (hw_us _ _ _) (hw_nn (hw_us _ _ _) hq16))) (hw_nn (hw_us _ _ _) hq16)).trans (hw_up (hw_us _ _ _) (hw_nn (hw_us _ _ _) hq16))
  have g20_a_wa_20 : a ≠ wa_20 := hw_xn (hw_sn (hw_up (hw_us _ _ _) (hw_nn (hw_us _ _ _) hq16))) hn_wa_20
  have f20_q5 := (hF20 _ (hw_sn (hw_up (hw_up ha9 (Ne.symm (hw_nn h0 hq5))) (hw_nn (hw_up ha9 (Ne.symm (hw_nn h0 hq5))) hq16))) (hw_nn (hw_up ha9 (Ne.symm (hw_nn h0 hq5))) hq16)).trans (hw_up (hw_up ha9 (Ne.symm (hw_nn h0 hq5))) (hw_nn (hw_up ha9 (Ne.symm (hw_nn h0 hq5))) hq16))
  have g20_q5_wa_20 : q5 ≠ wa_20 := hw_xn (hw_sn (hw_up (hw_up ha9 (Ne.symm (hw_nn h0 hq5))) (hw_nn (hw_up ha9 (Ne.symm (hw_nn h0 hq5))) hq16))) hn_wa_20
  have f20_ca_9 := (hF20 _ (hw_sn (hw_up (hw_up he_ca_9 (Ne.symm g9_a_ca_9)) (hw_nn (hw_up he_ca_9 (Ne.symm g9_a_ca_9)) hq16))) (hw_nn (hw_up he_ca_9 (Ne.symm g9_a_ca_9)) hq16)).trans (hw_up (hw_up he_ca_9 (Ne.symm g9_a_ca_9)) (hw_nn (hw_up he_ca_9 (Ne.symm g9_a_ca_9)) hq16))
  have g20_ca_9_wa_20 : ca_9 ≠ wa_20 := hw_xn (hw_sn (hw_up (hw_up he_ca_9 (Ne.symm g9_a_ca_9)) (hw_nn (hw_up he_ca_9 (Ne.symm g9_a_ca_9)) hq16))) hn_wa_20
  have f20_ha_9 := (hF20 _ (hw_sn (hw_up (hw_up he_ha_9 (Ne.symm g9_a_ha_9)) (hw_nn (hw_up he_ha_9 (Ne.symm g9_a_ha_9)) hq16))) (hw_nn (hw_up he_ha_9 (Ne.symm g9_a_ha_9)) hq16)).trans (hw_up (hw_up he_ha_9 (Ne.symm g9_a_ha_9)) (hw_nn (hw_up he_ha_9 (Ne.symm g9_a_ha_9)) hq16))
  have g20_ha_9_wa_20 : ha_9 ≠ wa_20 := hw_xn (hw_sn (hw_up (hw_up he_ha_9 (Ne.symm g9_a_ha_9)) (hw_nn (hw_up he_ha_9 (Ne.symm g9_a_ha_9)) hq16))) hn_wa_20
  have f20_sa_9 := (hF20 _ (hw_sn (hw_up (hw_up he_sa_9 (Ne.symm g9_a_sa_9)) (hw_nn (hw_up he_sa_9 (Ne.symm g9_a_sa_9)) hq16))) (hw_nn (hw_up he_sa_9 (Ne.symm g9_a_sa_9)) hq16)).trans (hw_up (hw_up he_sa_9 (Ne.symm g9_a_sa_9)) (hw_nn (hw_up he_sa_9 (Ne.symm g9_a_sa_9)) hq16))
  have g20_sa_9_wa_20 : sa_9 ≠ wa_20 := hw_xn (hw_sn (hw_up (hw_up he_sa_9 (Ne.symm g9_a_sa_9)) (hw_nn (hw_up he_sa_9 (Ne.symm g9_a_sa_9)) hq16))) hn_wa_20
  have g20_q16_wa_20 : q16 ≠ wa_20 := hw_xn (hw_sn (hw_us _ _ _)) hn_wa_20
  have b_wa_20 : M wa_20 = none := hw_alv.n (hw_alv_u (hw_alv_u al9)) hn_wa_20
  have al20 : hw_alv M M20 := hw_alv_F (hw_alv_u (hw_alv_u al9)) hF20 ha20
  have fr20 : ∀ x, M x ≠ none → x ≠ a → M20 x = M x := fun x hx hxa => by rw [hF20 x ((hw_alv_u (hw_alv_u al9)) x hx) (hw_xn hx b_q16), va_up_ne _ _ (hw_xn hx b_q16), va_up_ne _ _ hxa, fr9 x hx hxa]
  refine hw_putF (fs' := [.int 0, .ref q5, .ref q16, .int 0, .int 0, .double 0, .int 0, .null, .int 0, .int 0, .int 0, .int 0, .int 0]) hx hb hts hown hnm hk hI fp_X2_21 f20_a (Nat.le_of_ble_eq_true rfl) rfl rfl rfl dX2_init_23 (fun H locs hI => ?_)
  refine lv_aload_n hx hb dX2_init_26 rfl (lv_at hl 0 rfl) ?_
  refine lv_iconst (v := nI 0) hx hb dX2_init_27 (by decide) ?_
  refine hw_put (fs' := [.int 0, .ref q5, .ref q16, .int (nI 0), .int 0, .double 0, .int 0, .null, .int 0, .int 0, .int 0, .int 0, .int 0]) hx hb hts hown hk hI fp_X2_25 (hw_us _ _ _) (Nat.le_of_ble_eq_true rfl) rfl rfl rfl dX2_init_28 (fun H locs hI => ?_)
  refine lv_aload_n hx hb dX2_init_31 rfl (lv_at hl 0 rfl) ?_
  refine lv_iconst (v := (-1)) hx hb dX2_init_32 (by decide) ?_
  refine hw_put (fs' := [.int 0, .ref q5, .ref q16, .int (nI 0), .int 0, .double 0, .int 0, .null, .int (-1), .int 0, .int 0, .int 0, .int 0]) hx hb hts hown hk hI fp_X2_29 (hw_us _ _ _) (Nat.le_of_ble_eq_true rfl) rfl rfl rfl dX2_init_33 (fun H locs hI => ?_)
  refine lv_aload_n hx hb dX2_init_36 rfl (lv_at hl 0 rfl) ?_
  refine lv_iconst (v := (-1)) hx hb dX2_init_37 (by decide) ?_
  refine hw_put (fs' := [.int 0, .ref q5, .ref q16, .int (nI 0), .int 0, .double 0, .int 0, .null, .int (-1), .int (-1), .int 0, .int 0, .int 0]) hx hb hts hown hk hI fp_X2_32 (hw_us _ _ _) (Nat.le_of_ble_eq_true rfl) rfl rfl rfl dX2_init_38 (fun H locs hI => ?_)
  refine lv_aload_n hx hb dX2_init_41 rfl (lv_at hl 0 rfl) ?_
  refine lv_iconst (v := (-1)) hx hb dX2_init_42 (by decide) ?_
  refine hw_put (fs' := [.int 0, .ref q5, .ref q16, .int (nI 0), .int 0, .double 0, .int 0, .null, .int (-1), .int (-1), .int (-1), .int 0, .int 0]) hx hb hts hown hk hI fp_X2_35 (hw_us _ _ _) (Nat.le_of_ble_eq_true rfl) rfl rfl rfl dX2_init_43 (fun H locs hI => ?_)
  refine lv_aload_n hx hb dX2_init_46 rfl (lv_at hl 0 rfl) ?_
  refine lv_iconst (v := (-1)) hx hb dX2_init_47 (by decide) ?_
  refine hw_put (fs' := [.int 0, .ref q5, .ref q16, .int (nI 0), .int 0, .double 0, .int 0, .null, .int (-1), .int (-1), .int (-1), .int (-1), .int 0]) hx hb hts hown hk hI fp_X2_38 (hw_us _ _ _) (Nat.le_of_ble_eq_true rfl) rfl rfl rfl dX2_init_48 (fun H locs hI => ?_)
  refine lv_aload_n hx hb dX2_init_51 rfl (lv_at hl 0 rfl) ?_
  refine lv_iconst (v := (-1)) hx hb dX2_init_52 (by decide) ?_
  refine hw_put (fs' := [.int 0, .ref q5, .ref q16, .int (nI 0), .int 0, .double 0, .int 0, .null, .int (-1), .int (-1), .int (-1), .int (-1), .int (-1)]) hx hb hts hown hk hI fp_X2_41 (hw_us _ _ _) (Nat.le_of_ble_eq_true rfl) rfl rfl rfl dX2_init_53 (fun H locs hI => ?_)
  refine lv_aload_n hx hb dX2_init_56 rfl (lv_at hl 0 rfl) ?_
  refine lv_iload_n hx hb dX2_init_57 rfl (lv_at hl 1 rfl) ?_
  refine hw_putF (fs' := [.int (nI n), .ref q5, .ref q16, .int (nI 0), .int 0, .double 0, .int 0, .null, .int (-1), .int (-1), .int (-1), .int (-1), .int (-1)]) hx hb hts hown hnm hk hI fp_X2_44 (hw_us _ _ _) (Nat.le_of_ble_eq_true rfl) rfl rfl rfl dX2_init_58 (fun H locs hI => ?_)
  let cf : Nat → Nat := fun k => match k with | 1 => a | 2 => q5 | 3 => ca_9 | 4 => ha_9 | 5 => sa_9 | 6 => q16 | _ => wa_20
  have h1 : ∀ k, 2 ≤ k → k ≤ 7 → M (cf k) = none := by
    intro k h1 h2
    rcases (show k = 2 ∨ k = 3 ∨ k = 4 ∨ k = 5 ∨ k = 6 ∨ k = 7 by omega) with rfl | rfl | rfl | rfl | rfl | rfl
    · exact b_q5
    · exact b_ca_9
    · exact b_ha_9
    · exact b_sa_9
    · exact b_q16
    · exact b_wa_20
  have h2 : ∀ k j, 1 ≤ k → k ≤ 7 → 1 ≤ j → j ≤ 7 → cf k = cf j → k = j := by
    intro k j h1 h2 h3 h4
    rcases (show k = 1 ∨ k = 2 ∨ k = 3 ∨ k = 4 ∨ k = 5 ∨ k = 6 ∨ k = 7 by omega) with rfl | rfl | rfl | rfl | rfl | rfl | rfl <;> rcases (show j = 1 ∨ j = 2 ∨ j = 3 ∨ j = 4 ∨ j = 5 ∨ j = 6 ∨ j = 7 by omega) with rfl | rfl | rfl | rfl | rfl | rfl | rfl
    · exact fun _ => rfl
    · exact fun h => absurd h (hw_nn h0 hq5)
    · exact fun h => absurd h g9_a_ca_9
    · exact fun h => absurd h g9_a_ha_9
    · exact fun h => absurd h g9_a_sa_9
    · exact fun h => absurd h (hw_nn (hw_us _ _ _) hq16)
    · exact fun h => absurd h g20_a_wa_20
    · exact fun h => absurd h (Ne.symm (hw_nn h0 hq5))
    · exact fun _ => rfl
    · exact fun h => absurd h g9_q5_ca_9
    · exact fun h => absurd h g9_q5_ha_9
    · exact fun h => absurd h g9_q5_sa_9
    · exact fun h => absurd h (hw_nn (hw_up ha9 (Ne.symm (hw_nn h0 hq5))) hq16)
    · exact fun h => absurd h g20_q5_wa_20
    · exact fun h => absurd h (Ne.symm g9_a_ca_9)
    · exact fun h => absurd h (Ne.symm g9_q5_ca_9)
    · exact fun _ => rfl
    · exact fun h => absurd h hd9.1
    · exact fun h => absurd h hd9.2.1
    · exact fun h => absurd h (hw_nn (hw_up he_ca_9 (Ne.symm g9_a_ca_9)) hq16)
    · exact fun h => absurd h g20_ca_9_wa_20
    · exact fun h => absurd h (Ne.symm g9_a_ha_9)
    · exact fun h => absurd h (Ne.symm g9_q5_ha_9)
    · exact fun h => absurd h (Ne.symm hd9.1)
    · exact fun _ => rfl
    · exact fun h => absurd h hd9.2.2
    · exact fun h => absurd h (hw_nn (hw_up he_ha_9 (Ne.symm g9_a_ha_9)) hq16)
    · exact fun h => absurd h g20_ha_9_wa_20
    · exact fun h => absurd h (Ne.symm g9_a_sa_9)
    · exact fun h => absurd h (Ne.symm g9_q5_sa_9)
    · exact fun h => absurd h (Ne.symm hd9.2.1)
    · exact fun h => absurd h (Ne.symm hd9.2.2)
    · exact fun _ => rfl
    · exact fun h => absurd h (hw_nn (hw_up he_sa_9 (Ne.symm g9_a_sa_9)) hq16)
    · exact fun h => absurd h g20_sa_9_wa_20
    · exact fun h => absurd h (Ne.symm (hw_nn (hw_us _ _ _) hq16))
    · exact fun h => absurd h (Ne.symm (hw_nn (hw_up ha9 (Ne.symm (hw_nn h0 hq5))) hq16))
    · exact fun h => absurd h (Ne.symm (hw_nn (hw_up he_ca_9 (Ne.symm g9_a_ca_9)) hq16))
    · exact fun h => absurd h (Ne.symm (hw_nn (hw_up he_ha_9 (Ne.symm g9_a_ha_9)) hq16))
    · exact fun h => absurd h (Ne.symm (hw_nn (hw_up he_sa_9 (Ne.symm g9_a_sa_9)) hq16))
    · exact fun _ => rfl
    · exact fun h => absurd h g20_q16_wa_20
    · exact fun h => absurd h (Ne.symm g20_a_wa_20)
    · exact fun h => absurd h (Ne.symm g20_q5_wa_20)
    · exact fun h => absurd h (Ne.symm g20_ca_9_wa_20)
    · exact fun h => absurd h (Ne.symm g20_ha_9_wa_20)
    · exact fun h => absurd h (Ne.symm g20_sa_9_wa_20)
    · exact fun h => absurd h (Ne.symm g20_q16_wa_20)
    · exact fun _ => rfl
  have h3 : ∀ k, 1 ≤ k → k ≤ 7 → (va_up (va_up (va_up (va_up (va_up (va_up (va_up (va_up M20 a (hw_ob 3 [.int 0, .ref q5, .ref q16, .int 0, .int 0, .double 0, .int 0, .null, .int 0, .int 0, .int 0, .int 0, .int 0])) a (hw_ob 3 [.int 0, .ref q5, .ref q16, .int (nI 0), .int 0, .double 0, .int 0, .null, .int 0, .int 0, .int 0, .int 0, .int 0])) a (hw_ob 3 [.int 0, .ref q5, .ref q16, .int (nI 0), .int 0, .double 0, .int 0, .null, .int (-1), .int 0, .int 0, .int 0, .int 0])) a (hw_ob 3 [.int 0, .ref q5, .ref q16, .int (nI 0), .int 0, .double 0, .int 0, .null, .int (-1), .int (-1), .int 0, .int 0, .int 0])) a (hw_ob 3 [.int 0, .ref q5, .ref q16, .int (nI 0), .int 0, .double 0, .int 0, .null, .int (-1), .int (-1), .int (-1), .int 0, .int 0])) a (hw_ob 3 [.int 0, .ref q5, .ref q16, .int (nI 0), .int 0, .double 0, .int 0, .null, .int (-1), .int (-1), .int (-1), .int (-1), .int 0])) a (hw_ob 3 [.int 0, .ref q5, .ref q16, .int (nI 0), .int 0, .double 0, .int 0, .null, .int (-1), .int (-1), .int (-1), .int (-1), .int (-1)])) a (hw_ob 3 [.int (nI n), .ref q5, .ref q16, .int (nI 0), .int 0, .double 0, .int 0, .null, .int (-1), .int (-1), .int (-1), .int (-1), .int (-1)])) (cf k) = hp_e Z (fun k _ => cf k) hs_0 hp_T0 k n := by
    intro k h1 h2
    rcases (show k = 1 ∨ k = 2 ∨ k = 3 ∨ k = 4 ∨ k = 5 ∨ k = 6 ∨ k = 7 by omega) with rfl | rfl | rfl | rfl | rfl | rfl | rfl
    · refine Eq.trans (hw_us _ _ _) ?_
      first | rfl | (show hw_al Z 8 _ = hw_al Z 8 (hb_hang (fun _ => 0)); rw [hb_hang_0]) | (show hw_al Z 8 _ = hw_al Z 8 (hb_supp (fun _ => 0)); rw [hb_supp_0])
    · refine Eq.trans (hw_up (hw_up (hw_up (hw_up (hw_up (hw_up (hw_up (hw_up f20_q5 (Ne.symm (hw_nn h0 hq5))) (Ne.symm (hw_nn h0 hq5))) (Ne.symm (hw_nn h0 hq5))) (Ne.symm (hw_nn h0 hq5))) (Ne.symm (hw_nn h0 hq5))) (Ne.symm (hw_nn h0 hq5))) (Ne.symm (hw_nn h0 hq5))) (Ne.symm (hw_nn h0 hq5))) ?_
      first | rfl | (show hw_al Z 8 _ = hw_al Z 8 (hb_hang (fun _ => 0)); rw [hb_hang_0]) | (show hw_al Z 8 _ = hw_al Z 8 (hb_supp (fun _ => 0)); rw [hb_supp_0])
    · refine Eq.trans (hw_up (hw_up (hw_up (hw_up (hw_up (hw_up (hw_up (hw_up f20_ca_9 (Ne.symm g9_a_ca_9)) (Ne.symm g9_a_ca_9)) (Ne.symm g9_a_ca_9)) (Ne.symm g9_a_ca_9)) (Ne.symm g9_a_ca_9)) (Ne.symm g9_a_ca_9)) (Ne.symm g9_a_ca_9)) (Ne.symm g9_a_ca_9)) ?_
      first | rfl | (show hw_al Z 8 _ = hw_al Z 8 (hb_hang (fun _ => 0)); rw [hb_hang_0]) | (show hw_al Z 8 _ = hw_al Z 8 (hb_supp (fun _ => 0)); rw [hb_supp_0])
    · refine Eq.trans (hw_up (hw_up (hw_up (hw_up (hw_up (hw_up (hw_up (hw_up f20_ha_9 (Ne.symm g9_a_ha_9)) (Ne.symm g9_a_ha_9)) (Ne.symm g9_a_ha_9)) (Ne.symm g9_a_ha_9)) (Ne.symm g9_a_ha_9)) (Ne.symm g9_a_ha_9)) (Ne.symm g9_a_ha_9)) (Ne.symm g9_a_ha_9)) ?_
      first | rfl | (show hw_al Z 8 _ = hw_al Z 8 (hb_hang (fun _ => 0)); rw [hb_hang_0]) | (show hw_al Z 8 _ = hw_al Z 8 (hb_supp (fun _ => 0)); rw [hb_supp_0])
    · refine Eq.trans (hw_up (hw_up (hw_up (hw_up (hw_up (hw_up (hw_up (hw_up f20_sa_9 (Ne.symm g9_a_sa_9)) (Ne.symm g9_a_sa_9)) (Ne.symm g9_a_sa_9)) (Ne.symm g9_a_sa_9)) (Ne.symm g9_a_sa_9)) (Ne.symm g9_a_sa_9)) (Ne.symm g9_a_sa_9)) (Ne.symm g9_a_sa_9)) ?_
      first | rfl | (show hw_al Z 8 _ = hw_al Z 8 (hb_hang (fun _ => 0)); rw [hb_hang_0]) | (show hw_al Z 8 _ = hw_al Z 8 (hb_supp (fun _ => 0)); rw [hb_supp_0])
    · refine Eq.trans (hw_up (hw_up (hw_up (hw_up (hw_up (hw_up (hw_up (hw_up ha20 (Ne.symm (hw_nn (hw_us _ _ _) hq16))) (Ne.symm (hw_nn (hw_us _ _ _) hq16))) (Ne.symm (hw_nn (hw_us _ _ _) hq16))) (Ne.symm (hw_nn (hw_us _ _ _) hq16))) (Ne.symm (hw_nn (hw_us _ _ _) hq16))) (Ne.symm (hw_nn (hw_us _ _ _) hq16))) (Ne.symm (hw_nn (hw_us _ _ _) hq16))) (Ne.symm (hw_nn (hw_us _ _ _) hq16))) ?_
      first | rfl | (show hw_al Z 8 _ = hw_al Z 8 (hb_hang (fun _ => 0)); rw [hb_hang_0]) | (show hw_al Z 8 _ = hw_al Z 8 (hb_supp (fun _ => 0)); rw [hb_supp_0])
    · refine Eq.trans (hw_up (hw_up (hw_up (hw_up (hw_up (hw_up (hw_up (hw_up he_wa_20 (Ne.symm g20_a_wa_20)) (Ne.symm g20_a_wa_20)) (Ne.symm g20_a_wa_20)) (Ne.symm g20_a_wa_20)) (Ne.symm g20_a_wa_20)) (Ne.symm g20_a_wa_20)) (Ne.symm g20_a_wa_20)) (Ne.symm g20_a_wa_20)) ?_
      first | rfl | (show hw_al Z 8 _ = hw_al Z 8 (hb_hang (fun _ => 0)); rw [hb_hang_0]) | (show hw_al Z 8 _ = hw_al Z 8 (hb_supp (fun _ => 0)); rw [hb_supp_0])
  have hfin : (fun M' => ∃ cf : Nat → Nat, cf 1 = a ∧ (∀ k, 2 ≤ k → k ≤ 7 → M (cf k) = none) ∧ (∀ k j, 1 ≤ k → k ≤ 7 → 1 ≤ j → j ≤ 7 → cf k = cf j → k = j) ∧ (∀ k, 1 ≤ k → k ≤ 7 → M' (cf k) = hp_e Z (fun k _ => cf k) hs_0 hp_T0 k n) ∧ ∀ x, M x ≠ none → x ≠ a → M' x = M x) (va_up (va_up (va_up (va_up (va_up (va_up (va_up (va_up M20 a (hw_ob 3 [.int 0, .ref q5, .ref q16, .int 0, .int 0, .double 0, .int 0, .null, .int 0, .int 0, .int 0, .int 0, .int 0])) a (hw_ob 3 [.int 0, .ref q5, .ref q16, .int (nI 0), .int 0, .double 0, .int 0, .null, .int 0, .int 0, .int 0, .int 0, .int 0])) a (hw_ob 3 [.int 0, .ref q5, .ref q16, .int (nI 0), .int 0, .double 0, .int 0, .null, .int (-1), .int 0, .int 0, .int 0, .int 0])) a (hw_ob 3 [.int 0, .ref q5, .ref q16, .int (nI 0), .int 0, .double 0, .int 0, .null, .int (-1), .int (-1), .int 0, .int 0, .int 0])) a (hw_ob 3 [.int 0, .ref q5, .ref q16, .int (nI 0), .int 0, .double 0, .int 0, .null, .int (-1), .int (-1), .int (-1), .int 0, .int 0])) a (hw_ob 3 [.int 0, .ref q5, .ref q16, .int (nI 0), .int 0, .double 0, .int 0, .null, .int (-1), .int (-1), .int (-1), .int (-1), .int 0])) a (hw_ob 3 [.int 0, .ref q5, .ref q16, .int (nI 0), .int 0, .double 0, .int 0, .null, .int (-1), .int (-1), .int (-1), .int (-1), .int (-1)])) a (hw_ob 3 [.int (nI n), .ref q5, .ref q16, .int (nI 0), .int 0, .double 0, .int 0, .null, .int (-1), .int (-1), .int (-1), .int (-1), .int (-1)])) := ⟨cf, rfl, h1, h2, h3, fun x hx hxa => by rw [va_up_ne _ _ hxa, va_up_ne _ _ hxa, va_up_ne _ _ hxa, va_up_ne _ _ hxa, va_up_ne _ _ hxa, va_up_ne _ _ hxa, va_up_ne _ _ hxa, va_up_ne _ _ hxa, fr20 x hx hxa]⟩
  exact hret hI hfin (Nat.le_of_ble_eq_true rfl) (Nat.le_of_ble_eq_true rfl) dX2_init_61
