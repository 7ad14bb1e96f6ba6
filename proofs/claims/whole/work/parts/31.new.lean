theorem fp_X3_9 : hw_FP RX3 9 4 5 (.int) false := ⟨RX3, TX3, 6, "MeltPool$Powder", tyX3, rfl, by decide, iw_X3, (hw_win (w := .fieldLink RX3 9 "MeltPool$Powder" (TX3 5).2.1 (TX3 5).2.2.1) (by decide +kernel) (by decide +kernel)), Or.inl rfl, tyX3_ok, nmX3, rfl, (fun h => by cases h), by decide +kernel⟩
theorem fp_X3_15 : hw_FP RX3 15 4 0 (.int) true := ⟨RX3, TX3, 6, "MeltPool$Powder", tyX3, rfl, by decide, iw_X3, (hw_win (w := .fieldLink RX3 15 "MeltPool$Powder" (TX3 0).2.1 (TX3 0).2.2.1) (by decide +kernel) (by decide +kernel)), Or.inl rfl, tyX3_ok, nmX3, rfl, (fun _ => by decide +kernel), by decide +kernel⟩
theorem fp_X1_9 : hw_FP RX1 9 2 0 (.array .double) true := ⟨RX1, TX1, 3, "MeltPool$Melt", tyX1, rfl, by decide, iw_X1, (hw_win (w := .fieldLink RX1 9 "MeltPool$Melt" (TX1 0).2.1 (TX1 0).2.2.1) (by decide +kernel) (by decide +kernel)), Or.inl rfl, tyX1_ok, nmX1, rfl, (fun _ => by decide +kernel), by decide +kernel⟩
theorem fp_X0_15 : hw_FP RX0 15 1 5 (.array .int) true := ⟨RX0, TX0, 7, "MeltPool$Machine", tyX0, rfl, by decide, iw_X0, (hw_win (w := .fieldLink RX0 15 "MeltPool$Machine" (TX0 5).2.1 (TX0 5).2.2.1) (by decide +kernel) (by decide +kernel)), Or.inl rfl, tyX0_ok, nmX0, rfl, (fun _ => by decide +kernel), by decide +kernel⟩
theorem fp_X0_19 : hw_FP RX0 19 1 0 (.int) true := ⟨RX0, TX0, 7, "MeltPool$Machine", tyX0, rfl, by decide, iw_X0, (hw_win (w := .fieldLink RX0 19 "MeltPool$Machine" (TX0 0).2.1 (TX0 0).2.2.1) (by decide +kernel) (by decide +kernel)), Or.inl rfl, tyX0_ok, nmX0, rfl, (fun _ => by decide +kernel), by decide +kernel⟩
theorem fp_X4_9 : hw_FP RX4 9 5 0 (.array .long) true := ⟨RX4, TX4, 3, "MeltPool$Solid", tyX4, rfl, by decide, iw_X4, (hw_win (w := .fieldLink RX4 9 "MeltPool$Solid" (TX4 0).2.1 (TX4 0).2.2.1) (by decide +kernel) (by decide +kernel)), Or.inl rfl, tyX4_ok, nmX4, rfl, (fun _ => by decide +kernel), by decide +kernel⟩
theorem fp_X4_15 : hw_FP RX4 15 5 1 (.array .long) true := ⟨RX4, TX4, 3, "MeltPool$Solid", tyX4, rfl, by decide, iw_X4, (hw_win (w := .fieldLink RX4 15 "MeltPool$Solid" (TX4 1).2.1 (TX4 1).2.2.1) (by decide +kernel) (by decide +kernel)), Or.inl rfl, tyX4_ok, nmX4, rfl, (fun _ => by decide +kernel), by decide +kernel⟩
theorem fp_X4_18 : hw_FP RX4 18 5 2 (.array .long) true := ⟨RX4, TX4, 3, "MeltPool$Solid", tyX4, rfl, by decide, iw_X4, (hw_win (w := .fieldLink RX4 18 "MeltPool$Solid" (TX4 2).2.1 (TX4 2).2.2.1) (by decide +kernel) (by decide +kernel)), Or.inl rfl, tyX4_ok, nmX4, rfl, (fun _ => by decide +kernel), by decide +kernel⟩
set_option maxHeartbeats 4000000 in
set_option maxRecDepth 100000 in
theorem m_X3_init (l : Launch) (Z : hw_Z) (M : hw_M) (a : Nat) (n : Nat) (h0 : M a = hw_ob 4 [.int 0, .int 0, .int 0, .int 0, .int 0, .int 0]) : Met l yX3_init (hw_m yX3_init cX3_init 2 none) ({ frames := 2, cells := 0, slots := 0, locals := 40 } : Room) (va_Pc [.ref a, .int (nI n)] (hw_P Z M)) (hw_Qv Z (fun M' => va_up M a (hw_ob 4 [.int (nI n), .int 0, .int 0, .int 0, .int (nI 1 <<< (nI n &&& 31)), .int (-1)]) = M')) 0 0 (hw_A Z) := by
  refine hw_ofv (by decide +kernel) rfl (Nat.le_of_ble_eq_true rfl) ?_
  intro p e s m below meth c ls Q hx hb hml hown hts hk hnm hI hl hret
  refine lv_aload_n hx hb dX3_init_0 rfl (lv_at hl 0 rfl) ?_
  refine W.objInit hx hb hown (hts _ (hw_win (w := .methodLink RX3 3 objectInit) (by decide +kernel) (by decide +kernel))) (hts _ (hw_win (w := .instanceMethod objectInit) (by decide +kernel) (by decide +kernel))) (hts _ (hw_win (w := .code objectInit ⟨#[0xb1]⟩ 1 none) (by decide +kernel) (by decide +kernel))) rfl (by rw [hml]; exact hl.1) rfl dX3_init_1 (Nat.le_of_ble_eq_true rfl) (Nat.le_of_ble_eq_true rfl) ?_
  refine W.eq (g2 := F0 m 4 ls []) rfl ?_
  refine lv_aload_n hx hb dX3_init_4 rfl (lv_at hl 0 rfl) ?_
  refine lv_iconst (v := (-1)) hx hb dX3_init_5 (by decide) ?_
  refine hw_put (fs' := [.int 0, .int 0, .int 0, .int 0, .int 0, .int (-1)]) hx hb hts hown hk hI fp_X3_9 h0 (Nat.le_of_ble_eq_true rfl) rfl rfl rfl dX3_init_6 (fun H locs hI => ?_)
  refine lv_aload_n hx hb dX3_init_9 rfl (lv_at hl 0 rfl) ?_
  refine lv_iload_n hx hb dX3_init_10 rfl (lv_at hl 1 rfl) ?_
  refine hw_putF (fs' := [.int (nI n), .int 0, .int 0, .int 0, .int 0, .int (-1)]) hx hb hts hown hnm hk hI fp_X3_15 (hw_us _ _ _) (Nat.le_of_ble_eq_true rfl) rfl rfl rfl dX3_init_11 (fun H locs hI => ?_)
  refine lv_aload_n hx hb dX3_init_14 rfl (lv_at hl 0 rfl) ?_
  refine lv_iconst (v := nI 1) hx hb dX3_init_15 (by decide) ?_
  refine lv_iload_n hx hb dX3_init_16 rfl (lv_at hl 1 rfl) ?_
  refine lv_ishl hx hb dX3_init_17 ?_
  refine hw_put (fs' := [.int (nI n), .int 0, .int 0, .int 0, .int ((nI 1) <<< ((nI n) &&& 31)), .int (-1)]) hx hb hts hown hk hI fp_X3_18 (hw_us _ _ _) (Nat.le_of_ble_eq_true rfl) rfl rfl rfl dX3_init_18 (fun H locs hI => ?_)
  exact hret hI (by simp only [bx_uu]) (Nat.le_of_ble_eq_true rfl) (Nat.le_of_ble_eq_true rfl) dX3_init_21

set_option maxHeartbeats 4000000 in
set_option maxRecDepth 100000 in
theorem m_X1_init (l : Launch) (Z : hw_Z) (M : hw_M) (a : Nat) (h0 : M a = hw_ob 2 [.null, .int 0, .int 0]) : Met l yX1_init (hw_m yX1_init cX1_init 1 none) ({ frames := 3, cells := 1, slots := 64, locals := 80 } : Room) (va_Pc [.ref a] (hw_P Z M)) (hw_Qv Z (fun M' => ∃ (wa : Nat), (M wa = none) ∧ (True) ∧ (M' wa = hw_ad Z 64 (fun _ => 0)) ∧ M' a = hw_ob 2 [.ref wa, .int 0, .int 0] ∧ ∀ x, M x ≠ none → x ≠ a → M' x = M x)) 1 64 (hw_A Z) := by
  refine hw_ofv (by decide +kernel) rfl (Nat.le_of_ble_eq_true rfl) ?_
  intro p e s m below meth c ls Q hx hb hml hown hts hk hnm hI hl hret
  refine lv_aload_n hx hb dX1_init_0 rfl (lv_at hl 0 rfl) ?_
  refine W.objInit hx hb hown (hts _ (hw_win (w := .methodLink RX1 3 objectInit) (by decide +kernel) (by decide +kernel))) (hts _ (hw_win (w := .instanceMethod objectInit) (by decide +kernel) (by decide +kernel))) (hts _ (hw_win (w := .code objectInit ⟨#[0xb1]⟩ 1 none) (by decide +kernel) (by decide +kernel))) rfl (by rw [hml]; exact hl.1) rfl dX1_init_1 (Nat.le_of_ble_eq_true rfl) (Nat.le_of_ble_eq_true rfl) ?_
  refine W.eq (g2 := F0 m 4 ls []) rfl ?_
  refine lv_aload_n hx hb dX1_init_4 rfl (lv_at hl 0 rfl) ?_
  refine lv_bipush (v := nI 64) hx hb dX1_init_5 (by decide) ?_
  refine hw_newa (a0 := (64, .inr (.inr (.inr (.inl (fun _ => 0)))))) hx hb hts hk hI (atype := .double) (hw_win (w := .arrayClass .double) (by decide +kernel) (by decide +kernel)) rfl 2 rfl (fun _ h => by cases h) (fun _ => rfl) rfl (by decide) (by decide) (Nat.le_of_ble_eq_true rfl) (Nat.le_of_ble_eq_true rfl) dX1_init_7 (fun q7 H hq7 hI => ?_)
  refine hw_putF (fs' := [.ref q7, .int 0, .int 0]) hx hb hts hown hnm hk hI fp_X1_9 (hw_up h0 (hw_nn h0 hq7)) (Nat.le_of_ble_eq_true rfl) rfl rfl rfl dX1_init_9 (fun H locs hI => ?_)
  have b_q7 : M q7 = none := hq7
  have hfin : (fun M' => ∃ (wa : Nat), (M wa = none) ∧ (True) ∧ (M' wa = hw_ad Z 64 (fun _ => 0)) ∧ M' a = hw_ob 2 [.ref wa, .int 0, .int 0] ∧ ∀ x, M x ≠ none → x ≠ a → M' x = M x) (va_up (va_up M q7 (hw_ad Z 64 (fun _ => 0))) a (hw_ob 2 [.ref q7, .int 0, .int 0])) := ⟨q7, b_q7, trivial, hw_up (hw_us _ _ _) (Ne.symm (hw_nn h0 hq7)), hw_us _ _ _, fun x hx hxa => by rw [va_up_ne _ _ hxa, va_up_ne _ _ (hw_xn hx b_q7)]⟩
  exact hret hI hfin (Nat.le_of_ble_eq_true rfl) (Nat.le_of_ble_eq_true rfl) dX1_init_12

set_option maxHeartbeats 4000000 in
set_option maxRecDepth 100000 in
theorem m_X0_init (l : Launch) (Z : hw_Z) (M : hw_M) (a : Nat) (n : Nat) (h0 : M a = hw_ob 1 [.int 0, .int 0, .null, .int 0, .null, .null, .int 0]) : Met l yX0_init (hw_m yX0_init cX0_init 2 none) ({ frames := 3, cells := 1, slots := 4, locals := 80 } : Room) (va_Pc [.ref a, .int (nI n)] (hw_P Z M)) (hw_Qv Z (fun M' => ∃ (pa : Nat), (M pa = none) ∧ (True) ∧ (M' pa = hw_ai Z 4 (fun _ => 0)) ∧ M' a = hw_ob 1 [.int (nI n), .int (-1), .null, .int 0, .null, .ref pa, .int 0] ∧ ∀ x, M x ≠ none → x ≠ a → M' x = M x)) 1 4 (hw_A Z) := by
  refine hw_ofv (by decide +kernel) rfl (Nat.le_of_ble_eq_true rfl) ?_
  intro p e s m below meth c ls Q hx hb hml hown hts hk hnm hI hl hret
  refine lv_aload_n hx hb dX0_init_0 rfl (lv_at hl 0 rfl) ?_
  refine W.objInit hx hb hown (hts _ (hw_win (w := .methodLink RX0 3 objectInit) (by decide +kernel) (by decide +kernel))) (hts _ (hw_win (w := .instanceMethod objectInit) (by decide +kernel) (by decide +kernel))) (hts _ (hw_win (w := .code objectInit ⟨#[0xb1]⟩ 1 none) (by decide +kernel) (by decide +kernel))) rfl (by rw [hml]; exact hl.1) rfl dX0_init_1 (Nat.le_of_ble_eq_true rfl) (Nat.le_of_ble_eq_true rfl) ?_
  refine W.eq (g2 := F0 m 4 ls []) rfl ?_
  refine lv_aload_n hx hb dX0_init_4 rfl (lv_at hl 0 rfl) ?_
  refine lv_iconst (v := (-1)) hx hb dX0_init_5 (by decide) ?_
  refine hw_put (fs' := [.int 0, .int (-1), .null, .int 0, .null, .null, .int 0]) hx hb hts hown hk hI fp_X0_9 h0 (Nat.le_of_ble_eq_true rfl) rfl rfl rfl dX0_init_6 (fun H locs hI => ?_)
  refine lv_aload_n hx hb dX0_init_9 rfl (lv_at hl 0 rfl) ?_
  refine lv_iconst (v := nI 4) hx hb dX0_init_10 (by decide) ?_
  refine hw_newa (a0 := (4, .inl (fun _ => 0))) hx hb hts hk hI (atype := .int) (hw_win (w := .arrayClass .int) (by decide +kernel) (by decide +kernel)) rfl 0 rfl (fun _ h => by cases h) (fun _ => rfl) rfl (by decide) (by decide) (Nat.le_of_ble_eq_true rfl) (Nat.le_of_ble_eq_true rfl) dX0_init_11 (fun q11 H hq11 hI => ?_)
  refine hw_putF (fs' := [.int 0, .int (-1), .null, .int 0, .null, .ref q11, .int 0]) hx hb hts hown hnm hk hI fp_X0_15 (hw_up (hw_us _ _ _) (hw_nn (hw_us _ _ _) hq11)) (Nat.le_of_ble_eq_true rfl) rfl rfl rfl dX0_init_13 (fun H locs hI => ?_)
  refine lv_aload_n hx hb dX0_init_16 rfl (lv_at hl 0 rfl) ?_
  refine lv_iload_n hx hb dX0_init_17 rfl (lv_at hl 1 rfl) ?_
  refine hw_putF (fs' := [.int (nI n), .int (-1), .null, .int 0, .null, .ref q11, .int 0]) hx hb hts hown hnm hk hI fp_X0_19 (hw_us _ _ _) (Nat.le_of_ble_eq_true rfl) rfl rfl rfl dX0_init_18 (fun H locs hI => ?_)
  have b_q11 : M q11 = none := (hw_fr hq11).1
  have hfin : (fun M' => ∃ (pa : Nat), (M pa = none) ∧ (True) ∧ (M' pa = hw_ai Z 4 (fun _ => 0)) ∧ M' a = hw_ob 1 [.int (nI n), .int (-1), .null, .int 0, .null, .ref pa, .int 0] ∧ ∀ x, M x ≠ none → x ≠ a → M' x = M x) (va_up (va_up (va_up (va_up M a (hw_ob 1 [.int 0, .int (-1), .null, .int 0, .null, .null, .int 0])) q11 (hw_ai Z 4 (fun _ => 0))) a (hw_ob 1 [.int 0, .int (-1), .null, .int 0, .null, .ref q11, .int 0])) a (hw_ob 1 [.int (nI n), .int (-1), .null, .int 0, .null, .ref q11, .int 0])) := ⟨q11, b_q11, trivial, hw_up (hw_up (hw_us _ _ _) (Ne.symm (hw_nn (hw_us _ _ _) hq11))) (Ne.symm (hw_nn (hw_us _ _ _) hq11)), hw_us _ _ _, fun x hx hxa => by rw [va_up_ne _ _ hxa, va_up_ne _ _ hxa, va_up_ne _ _ (hw_xn hx b_q11), va_up_ne _ _ hxa]⟩
  exact hret hI hfin (Nat.le_of_ble_eq_true rfl) (Nat.le_of_ble_eq_true rfl) dX0_init_21

set_option maxHeartbeats 4000000 in
set_option maxRecDepth 100000 in
theorem m_X4_init (l : Launch) (Z : hw_Z) (M : hw_M) (a : Nat) (h0 : M a = hw_ob 5 [.null, .null, .null]) : Met l yX4_init (hw_m yX4_init cX4_init 1 none) ({ frames := 3, cells := 3, slots := 24, locals := 80 } : Room) (va_Pc [.ref a] (hw_P Z M)) (hw_Qv Z (fun M' => ∃ (ca : Nat) (ha : Nat) (sa : Nat), (M ca = none ∧ M ha = none ∧ M sa = none) ∧ (ca ≠ ha ∧ ca ≠ sa ∧ ha ≠ sa) ∧ (M' ca = hw_al Z 8 (fun _ => 0) ∧ M' ha = hw_al Z 8 (fun _ => 0) ∧ M' sa = hw_al Z 8 (fun _ => 0)) ∧ M' a = hw_ob 5 [.ref ca, .ref ha, .ref sa] ∧ ∀ x, M x ≠ none → x ≠ a → M' x = M x)) 3 24 (hw_A Z) := by
  refine hw_ofv (by decide +kernel) rfl (Nat.le_of_ble_eq_true rfl) ?_
  intro p e s m below meth c ls Q hx hb hml hown hts hk hnm hI hl hret
  refine lv_aload_n hx hb dX4_init_0 rfl (lv_at hl 0 rfl) ?_
  refine W.objInit hx hb hown (hts _ (hw_win (w := .methodLink RX4 3 objectInit) (by decide +kernel) (by decide +kernel))) (hts _ (hw_win (w := .instanceMethod objectInit) (by decide +kernel) (by decide +kernel))) (hts _ (hw_win (w := .code objectInit ⟨#[0xb1]⟩ 1 none) (by decide +kernel) (by decide +kernel))) rfl (by rw [hml]; exact hl.1) rfl dX4_init_1 (Nat.le_of_ble_eq_true rfl) (Nat.le_of_ble_eq_true rfl) ?_
  refine W.eq (g2 := F0 m 4 ls []) rfl ?_
  refine lv_aload_n hx hb dX4_init_4 rfl (lv_at hl 0 rfl) ?_
  refine lv_bipush (v := nI 8) hx hb dX4_init_5 (by decide) ?_
  refine hw_newa (a0 := (8, .inr (.inl (fun _ => 0)))) hx hb hts hk hI (atype := .long) (hw_win (w := .arrayClass .long) (by decide +kernel) (by decide +kernel)) rfl 1 rfl (fun _ h => by cases h) (fun _ => rfl) rfl (by decide) (by decide) (Nat.le_of_ble_eq_true rfl) (Nat.le_of_ble_eq_true rfl) dX4_init_7 (fun q7 H hq7 hI => ?_)
  refine hw_putF (fs' := [.ref q7, .null, .null]) hx hb hts hown hnm hk hI fp_X4_9 (hw_up h0 (hw_nn h0 hq7)) (Nat.le_of_ble_eq_true rfl) rfl rfl rfl dX4_init_9 (fun H locs hI => ?_)
  refine lv_aload_n hx hb dX4_init_12 rfl (lv_at hl 0 rfl) ?_
  refine lv_bipush (v := nI 8) hx hb dX4_init_13 (by decide) ?_
  refine hw_newa (a0 := (8, .inr (.inl (fun _ => 0)))) hx hb hts hk hI (atype := .long) (hw_win (w := .arrayClass .long) (by decide +kernel) (by decide +kernel)) rfl 1 rfl (fun _ h => by cases h) (fun _ => rfl) rfl (by decide) (by decide) (Nat.le_of_ble_eq_true rfl) (Nat.le_of_ble_eq_true rfl) dX4_init_15 (fun q15 H hq15 hI => ?_)
  refine hw_putF (fs' := [.ref q7, .ref q15, .null]) hx hb hts hown hnm hk hI fp_X4_15 (hw_up (hw_us _ _ _) (hw_nn (hw_us _ _ _) hq15)) (Nat.le_of_ble_eq_true rfl) rfl rfl rfl dX4_init_17 (fun H locs hI => ?_)
  refine lv_aload_n hx hb dX4_init_20 rfl (lv_at hl 0 rfl) ?_
  refine lv_bipush (v := nI 8) hx hb dX4_init_21 (by decide) ?_
  refine hw_newa (a0 := (8, .inr (.inl (fun _ => 0)))) hx hb hts hk hI (atype := .long) (hw_win (w := .arrayClass .long) (by decide +kernel) (by decide +kernel)) rfl 1 rfl (fun _ h => by cases h) (fun _ => rfl) rfl (by decide) (by decide) (Nat.le_of_ble_eq_true rfl) (Nat.le_of_ble_eq_true rfl) dX4_init_23 (fun q23 H hq23 hI => ?_)
  refine hw_putF (fs' := [.ref q7, .ref q15, .ref q23]) hx hb hts hown hnm hk hI fp_X4_18 (hw_up (hw_us _ _ _) (hw_nn (hw_us _ _ _) hq23)) (Nat.le_of_ble_eq_true rfl) rfl rfl rfl dX4_init_25 (fun H locs hI => ?_)
  have b_q7 : M q7 = none := hq7
  have b_q15 : M q15 = none := (hw_fr (hw_fr hq15).1).1
  have b_q23 : M q23 = none := (hw_fr (hw_fr (hw_fr (hw_fr hq23).1).1).1).1
  have hfin : (fun M' => ∃ (ca : Nat) (ha : Nat) (sa : Nat), (M ca = none ∧ M ha = none ∧ M sa = none) ∧ (ca ≠ ha ∧ ca ≠ sa ∧ ha ≠ sa) ∧ (M' ca = hw_al Z 8 (fun _ => 0) ∧ M' ha = hw_al Z 8 (fun _ => 0) ∧ M' sa = hw_al Z 8 (fun _ => 0)) ∧ M' a = hw_ob 5 [.ref ca, .ref ha, .ref sa] ∧ ∀ x, M x ≠ none → x ≠ a → M' x = M x) (va_up (va_up (va_up (va_up (va_up (va_up M q7 (hw_al Z 8 (fun _ => 0))) a (hw_ob 5 [.ref q7, .null, .null])) q15 (hw_al Z 8 (fun _ => 0))) a (hw_ob 5 [.ref q7, .ref q15, .null])) q23 (hw_al Z 8 (fun _ => 0))) a (hw_ob 5 [.ref q7, .ref q15, .ref q23])) := ⟨q7, q15, q23, ⟨b_q7, b_q15, b_q23⟩, ⟨(hw_nn (hw_up (hw_us _ _ _) (Ne.symm (hw_nn h0 hq7))) hq15), (hw_nn (hw_up (hw_up (hw_up (hw_us _ _ _) (Ne.symm (hw_nn h0 hq7))) (hw_nn (hw_up (hw_us _ _ _) (Ne.symm (hw_nn h0 hq7))) hq15)) (Ne.symm (hw_nn h0 hq7))) hq23), (hw_nn (hw_up (hw_us _ _ _) (Ne.symm (hw_nn (hw_us _ _ _) hq15))) hq23)⟩, ⟨hw_up (hw_up (hw_up (hw_up (hw_up (hw_us _ _ _) (Ne.symm (hw_nn h0 hq7))) (hw_nn (hw_up (hw_us _ _ _) (Ne.symm (hw_nn h0 hq7))) hq15)) (Ne.symm (hw_nn h0 hq7))) (hw_nn (hw_up (hw_up (hw_up (hw_us _ _ _) (Ne.symm (hw_nn h0 hq7))) (hw_nn (hw_up (hw_us _ _ _) (Ne.symm (hw_nn h0 hq7))) hq15)) (Ne.symm (hw_nn h0 hq7))) hq23)) (Ne.symm (hw_nn h0 hq7)), hw_up (hw_up (hw_up (hw_us _ _ _) (Ne.symm (hw_nn (hw_us _ _ _) hq15))) (hw_nn (hw_up (hw_us _ _ _) (Ne.symm (hw_nn (hw_us _ _ _) hq15))) hq23)) (Ne.symm (hw_nn (hw_us _ _ _) hq15)), hw_up (hw_us _ _ _) (Ne.symm (hw_nn (hw_us _ _ _) hq23))⟩, hw_us _ _ _, fun x hx hxa => by rw [va_up_ne _ _ hxa, va_up_ne _ _ (hw_xn hx b_q23), va_up_ne _ _ hxa, va_up_ne _ _ (hw_xn hx b_q15), va_up_ne _ _ hxa, va_up_ne _ _ (hw_xn hx b_q7)]⟩
  exact hret hI hfin (Nat.le_of_ble_eq_true rfl) (Nat.le_of_ble_eq_true rfl) dX4_init_28
